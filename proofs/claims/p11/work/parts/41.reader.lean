def fX8_isWithin (x : Int64) (y : Int32) : Int32 :=
  if (lg_cmp x 0) < 0 then
    0
  else
    if 0 < (lg_cmp x ((y : Int32).toInt64)) then
      0
    else
      1
set_option maxHeartbeats 4000000 in
set_option maxRecDepth 100000 in
theorem c_X8_isWithin (l : Launch) (dC : Nat → ClassId) (dI : Nat → Nat → Nat) (cB cC cI cJ : ClassId) (sz : Nat) (x : Int64) (y : Int32) : Met l yX8_isWithin wsX8_isWithin ({ frames := 0, cells := 0, slots := 0, locals := 0 } : Room) (cP dC dI cB cC cI cJ [.long x, .int y] sz []) (vp_Si (fun r => r = (fX8_isWithin x y))) 0 0 (fun _ => False) := by
  refine Met.ofW (cc := cX8_isWithin) (maxL := 3) (ret := (some .boolean)) (by decide) rfl ?_
  intro p e s m args below meth c s₁ B hml hv
  obtain ⟨rfl, hsz, hP, hG, hD0⟩ := hv
  have hx := B.exec
  have hb := B.bytes
  have hr := B.returns
  have hts := atoms_spec (ws := wsX8_isWithin) B.pre
  have hown : s.vm.findClass RX8 = some m.cls := findClass_of_methodNamed B.named
  have hlocks := B.notSynchronized
  subst hsz
  obtain ⟨H, hH⟩ : ∃ H : Heap, H = s.heap := ⟨_, rfl⟩
  rw [← hH] at hP ⊢
  generalize hR : fX8_isWithin x y = R
  unfold fX8_isWithin at hR
  have hl := lv_entry ([.long x, .int y]) (n := 3) (Nat.le_of_ble_eq_true rfl)
  rw [lg_entry_eq]
  generalize (lg_sl ([.long x, .int y]) ++ List.replicate (3 - (lg_sl ([.long x, .int y])).length) Slot.unset).toArray = ls at hl ⊢
  have hl : lv_has ls 3 [(0, .long x), (2, .int y)] := hl
  refine lv_lload_n hx hb dX8_isWithin_0 rfl (lv_at hl 0 rfl) ?_
  refine lv_lconst (v := 0) hx hb dX8_isWithin_1 (by decide) ?_
  refine W.lcmp hx hb dX8_isWithin_2 ?_
  refine lv_if_lt (tgt := 17) hx hb dX8_isWithin_3 (by decide) (fun c_1 => ?_) (fun c_1 => ?_)
  · rw [if_pos c_1] at hR
    refine lv_iconst (v := 0) hx hb dX8_isWithin_17 (by decide) ?_
    subst hR
    exact W.zret (v := 0) hx hb hr rfl (fun t ht hW => ⟨0, rfl, rfl, ht.trans hH⟩) t_nil dX8_isWithin_18
  · rw [if_neg c_1] at hR
    refine lv_lload_n hx hb dX8_isWithin_6 rfl (lv_at hl 0 rfl) ?_
    refine lv_iload_n hx hb dX8_isWithin_7 rfl (lv_at hl 1 rfl) ?_
    refine lv_i2l hx hb dX8_isWithin_8 rfl ?_
    refine W.lcmp hx hb dX8_isWithin_9 ?_
    refine lv_if_gt (tgt := 17) hx hb dX8_isWithin_10 (by decide) (fun c_2 => ?_) (fun c_2 => ?_)
    · rw [if_pos c_2] at hR
      refine lv_iconst (v := 0) hx hb dX8_isWithin_17 (by decide) ?_
      subst hR
      exact W.zret (v := 0) hx hb hr rfl (fun t ht hW => ⟨0, rfl, rfl, ht.trans hH⟩) t_nil dX8_isWithin_18
    · rw [if_neg c_2] at hR
      refine lv_iconst (v := 1) hx hb dX8_isWithin_13 (by decide) ?_
      refine lv_goto (tgt := 18) hx hb dX8_isWithin_14 (by decide) ?_
      subst hR
      exact W.zret (v := 1) hx hb hr rfl (fun t ht hW => ⟨1, rfl, rfl, ht.trans hH⟩) t_nil dX8_isWithin_18

def fX3_isInBounds (g0 g1 g2 g3 g4 g5 : Int32) : Int32 :=
  bnd (fX8_isWithin ((g0 : Int32).toInt64) 199) fun r_1 =>
  if r_1 = 0 then
    0
  else
    bnd (fX8_isWithin ((g1 : Int32).toInt64) 999999) fun r_3 =>
    if r_3 = 0 then
      0
    else
      bnd (fX3_tellsSource g0 g1 g2 g3 g4 g5) fun r_5 =>
      if r_5 = 0 then
        1
      else
        if 99 < g2 then
          0
        else
          if 99 < g5 then
            0
          else
            bnd (fX8_isWithin ((g3 : Int32).toInt64) 999999) fun r_9 =>
            if r_9 = 0 then
              0
            else
              bnd (fX8_isWithin ((g4 : Int32).toInt64) 999999) fun r_11 =>
              if r_11 = 0 then
                0
              else
                1
theorem inc_X3_isInBounds_3 : ∀ w ∈ u_ws RX3 TX3 6, w ∈ wsX3_isInBounds := by decide +kernel
set_option maxHeartbeats 4000000 in
set_option maxRecDepth 100000 in
theorem c_X3_isInBounds (l : Launch) (dC : Nat → ClassId) (dI : Nat → Nat → Nat) (cB cC cI cJ : ClassId) (sz : Nat) (h0 : Nat) (g0 g1 g2 g3 g4 g5 : Int32) : Met l yX3_isInBounds wsX3_isInBounds ({ frames := 1, cells := 0, slots := 0, locals := 22 } : Room) (cP dC dI cB cC cI cJ [.ref h0] sz [(h0, .inr (3, [.int g0, .int g1, .int g2, .int g3, .int g4, .int g5]))]) (vp_Si (fun r => r = (fX3_isInBounds g0 g1 g2 g3 g4 g5))) 0 0 (fun _ => False) := by
  refine Met.ofW (cc := cX3_isInBounds) (maxL := 1) (ret := (some .boolean)) (by decide) rfl ?_
  intro p e s m args below meth c s₁ B hml hv
  obtain ⟨rfl, hsz, hP, hG, hD0⟩ := hv
  have hx := B.exec
  have hb := B.bytes
  have hr := B.returns
  have hts := atoms_spec (ws := wsX3_isInBounds) B.pre
  have hown : s.vm.findClass RX3 = some m.cls := findClass_of_methodNamed B.named
  have hlocks := B.notSynchronized
  subst hsz
  obtain ⟨H, hH⟩ : ∃ H : Heap, H = s.heap := ⟨_, rfl⟩
  rw [← hH] at hP ⊢
  generalize hR : fX3_isInBounds g0 g1 g2 g3 g4 g5 = R
  unfold fX3_isInBounds at hR
  have hl := lv_entry ([.ref h0]) (n := 1) (Nat.le_of_ble_eq_true rfl)
  rw [lg_entry_eq]
  generalize (lg_sl ([.ref h0]) ++ List.replicate (1 - (lg_sl ([.ref h0])).length) Slot.unset).toArray = ls at hl ⊢
  have hl : lv_has ls 1 [(0, .ref h0)] := hl
  refine lv_aload_n hx hb dX3_isInBounds_0 rfl (lv_at hl 0 rfl) ?_
  refine va_get (D := (dC, dI)) (ci := 3) (v := .int g0) (C := RX3) (T := TX3) (N := 6) hx hb hts inc_X3_isInBounds_3 hown hG.1 hP 0 rfl rfl 0 (by decide) (hts (.fieldLink RX3 9 "MappingDesk$Segment" "line" "I") (by decide +kernel)) (fun _ h9 => h9) rfl dX3_isInBounds_1 ?_
  refine lv_i2l hx hb dX3_isInBounds_4 rfl ?_
  refine lv_sipush (v := 199) hx hb dX3_isInBounds_5 (by decide) ?_
  have hPc := hP.sub (ws' := []) [] rfl
  have hDc := hD0.sub (ws' := []) [] (by decide) rfl
  refine vp_callSi (va_Run.run (va_runSN (As := [.long ((g0 : Int32).toInt64), .int 199]) (rest := []) ⟨hx, hb, hml, hown, hts⟩ (c_X8_isWithin l dC dI cB cC cI cJ H.size ((g0 : Int32).toInt64) 199 ) ⟨va_cnB 2 hts gX3_isInBounds_X8_isWithin_n30 rfl rfl rfl (hG.nm (A := #[]) (w := .methodLinkNest RX3 30 yX8_isWithin "MappingDesk") (by decide +kernel)) (hts (.initialized RX8) (by decide +kernel)) (by decide +kernel) ⟨(Nat.le_of_ble_eq_true rfl), (Nat.le_of_ble_eq_true rfl)⟩, hts (.static yX8_isWithin) (by decide +kernel), trivial⟩ ⟨cP_blind, cP_pre hPc hG hDc⟩ rfl rfl hl.1 rfl (lv_room (Nat.le_of_ble_eq_true rfl)) dX3_isInBounds_8 ⟨Nat.le_of_ble_eq_true rfl, Nat.le_of_ble_eq_true rfl⟩)) (fun r_1 hr_1 => ?_)
  rw [bnd_eq hr_1.symm] at hR
  refine lv_if_eq (tgt := 27) hx hb dX3_isInBounds_11 (by decide) (fun c_2 => ?_) (fun c_2 => ?_)
  · rw [if_pos c_2] at hR
    refine lv_iconst (v := 0) hx hb dX3_isInBounds_27 (by decide) ?_
    subst hR
    exact W.zret (v := 0) hx hb hr rfl (fun t ht hW => ⟨0, rfl, rfl, ht.trans hH⟩) t_nil dX3_isInBounds_28
  · rw [if_neg c_2] at hR
    refine lv_aload_n hx hb dX3_isInBounds_14 rfl (lv_at hl 0 rfl) ?_
    refine va_get (D := (dC, dI)) (ci := 3) (v := .int g1) (C := RX3) (T := TX3) (N := 6) hx hb hts inc_X3_isInBounds_3 hown hG.1 hP 0 rfl rfl 1 (by decide) (hts (.fieldLink RX3 15 "MappingDesk$Segment" "column" "I") (by decide +kernel)) (fun _ h9 => h9) rfl dX3_isInBounds_15 ?_
    refine lv_i2l hx hb dX3_isInBounds_18 rfl ?_
    refine lv_ldc (v := 999999) hx hb hown (hts (.constant RX3 34 999999) (by decide +kernel)) dX3_isInBounds_19 ?_
    have hPc := hP.sub (ws' := []) [] rfl
    have hDc := hD0.sub (ws' := []) [] (by decide) rfl
    refine vp_callSi (va_Run.run (va_runSN (As := [.long ((g1 : Int32).toInt64), .int 999999]) (rest := []) ⟨hx, hb, hml, hown, hts⟩ (c_X8_isWithin l dC dI cB cC cI cJ H.size ((g1 : Int32).toInt64) 999999 ) ⟨va_cnB 2 hts gX3_isInBounds_X8_isWithin_n30 rfl rfl rfl (hG.nm (A := #[]) (w := .methodLinkNest RX3 30 yX8_isWithin "MappingDesk") (by decide +kernel)) (hts (.initialized RX8) (by decide +kernel)) (by decide +kernel) ⟨(Nat.le_of_ble_eq_true rfl), (Nat.le_of_ble_eq_true rfl)⟩, hts (.static yX8_isWithin) (by decide +kernel), trivial⟩ ⟨cP_blind, cP_pre hPc hG hDc⟩ rfl rfl hl.1 rfl (lv_room (Nat.le_of_ble_eq_true rfl)) dX3_isInBounds_21 ⟨Nat.le_of_ble_eq_true rfl, Nat.le_of_ble_eq_true rfl⟩)) (fun r_3 hr_3 => ?_)
    rw [bnd_eq hr_3.symm] at hR
    refine lv_if_ne (tgt := 29) hx hb dX3_isInBounds_24 (by decide) (fun c_4 => ?_) (fun c_4 => ?_)
    · rw [if_neg c_4] at hR
      refine lv_aload_n hx hb dX3_isInBounds_29 rfl (lv_at hl 0 rfl) ?_
      have hPc := hP.sub (ws' := [(h0, .inr (3, [.int g0, .int g1, .int g2, .int g3, .int g4, .int g5]))]) [0] rfl
      have hDc := hD0.sub (ws' := [(h0, .inr (3, [.int g0, .int g1, .int g2, .int g3, .int g4, .int g5]))]) [0] (by decide) rfl
      refine vp_callSi (va_Run.run (va_runV (As := []) (rest := []) ⟨hx, hb, hml, hown, hts⟩ (c_X3_tellsSource l dC dI cB cC cI cJ H.size h0 g0 g1 g2 g3 g4 g5 ) (cwV 0 hts gX3_isInBounds_X3_tellsSource rfl rfl rfl (by decide +kernel) ⟨(Nat.le_of_ble_eq_true rfl), (Nat.le_of_ble_eq_true rfl)⟩) ⟨cP_blind, va_recv hG.1 hPc (ci := 3) (q0 := 0) rfl rfl, cP_pre hPc hG hDc⟩ rfl rfl hl.1 rfl (lv_room (Nat.le_of_ble_eq_true rfl)) dX3_isInBounds_30 ⟨Nat.le_of_ble_eq_true rfl, Nat.le_of_ble_eq_true rfl⟩)) (fun r_5 hr_5 => ?_)
      rw [bnd_eq hr_5.symm] at hR
      refine lv_if_eq (tgt := 80) hx hb dX3_isInBounds_33 (by decide) (fun c_6 => ?_) (fun c_6 => ?_)
      · rw [if_pos c_6] at hR
        refine lv_iconst (v := 1) hx hb dX3_isInBounds_80 (by decide) ?_
        refine lv_goto (tgt := 85) hx hb dX3_isInBounds_81 (by decide) ?_
        subst hR
        exact W.zret (v := 1) hx hb hr rfl (fun t ht hW => ⟨1, rfl, rfl, ht.trans hH⟩) t_nil dX3_isInBounds_85
      · rw [if_neg c_6] at hR
        refine lv_aload_n hx hb dX3_isInBounds_36 rfl (lv_at hl 0 rfl) ?_
        refine va_get (D := (dC, dI)) (ci := 3) (v := .int g2) (C := RX3) (T := TX3) (N := 6) hx hb hts inc_X3_isInBounds_3 hown hG.1 hP 0 rfl rfl 2 (by decide) (hts (.fieldLink RX3 18 "MappingDesk$Segment" "source" "I") (by decide +kernel)) (fun _ h9 => h9) rfl dX3_isInBounds_37 ?_
        refine lv_bipush (v := 99) hx hb dX3_isInBounds_40 (by decide) ?_
        refine lv_icmp_gt (tgt := 84) hx hb dX3_isInBounds_42 (by decide) (fun c_7 => ?_) (fun c_7 => ?_)
        · rw [if_pos c_7] at hR
          refine lv_iconst (v := 0) hx hb dX3_isInBounds_84 (by decide) ?_
          subst hR
          exact W.zret (v := 0) hx hb hr rfl (fun t ht hW => ⟨0, rfl, rfl, ht.trans hH⟩) t_nil dX3_isInBounds_85
        · rw [if_neg c_7] at hR
          refine lv_aload_n hx hb dX3_isInBounds_45 rfl (lv_at hl 0 rfl) ?_
          refine va_get (D := (dC, dI)) (ci := 3) (v := .int g5) (C := RX3) (T := TX3) (N := 6) hx hb hts inc_X3_isInBounds_3 hown hG.1 hP 0 rfl rfl 5 (by decide) (hts (.fieldLink RX3 27 "MappingDesk$Segment" "name" "I") (by decide +kernel)) (fun _ h9 => h9) rfl dX3_isInBounds_46 ?_
          refine lv_bipush (v := 99) hx hb dX3_isInBounds_49 (by decide) ?_
          refine lv_icmp_gt (tgt := 84) hx hb dX3_isInBounds_51 (by decide) (fun c_8 => ?_) (fun c_8 => ?_)
          · rw [if_pos c_8] at hR
            refine lv_iconst (v := 0) hx hb dX3_isInBounds_84 (by decide) ?_
            subst hR
            exact W.zret (v := 0) hx hb hr rfl (fun t ht hW => ⟨0, rfl, rfl, ht.trans hH⟩) t_nil dX3_isInBounds_85
          · rw [if_neg c_8] at hR
            refine lv_aload_n hx hb dX3_isInBounds_54 rfl (lv_at hl 0 rfl) ?_
            refine va_get (D := (dC, dI)) (ci := 3) (v := .int g3) (C := RX3) (T := TX3) (N := 6) hx hb hts inc_X3_isInBounds_3 hown hG.1 hP 0 rfl rfl 3 (by decide) (hts (.fieldLink RX3 21 "MappingDesk$Segment" "sourceLine" "I") (by decide +kernel)) (fun _ h9 => h9) rfl dX3_isInBounds_55 ?_
            refine lv_i2l hx hb dX3_isInBounds_58 rfl ?_
            refine lv_ldc (v := 999999) hx hb hown (hts (.constant RX3 34 999999) (by decide +kernel)) dX3_isInBounds_59 ?_
            have hPc := hP.sub (ws' := []) [] rfl
            have hDc := hD0.sub (ws' := []) [] (by decide) rfl
            refine vp_callSi (va_Run.run (va_runSN (As := [.long ((g3 : Int32).toInt64), .int 999999]) (rest := []) ⟨hx, hb, hml, hown, hts⟩ (c_X8_isWithin l dC dI cB cC cI cJ H.size ((g3 : Int32).toInt64) 999999 ) ⟨va_cnB 2 hts gX3_isInBounds_X8_isWithin_n30 rfl rfl rfl (hG.nm (A := #[]) (w := .methodLinkNest RX3 30 yX8_isWithin "MappingDesk") (by decide +kernel)) (hts (.initialized RX8) (by decide +kernel)) (by decide +kernel) ⟨(Nat.le_of_ble_eq_true rfl), (Nat.le_of_ble_eq_true rfl)⟩, hts (.static yX8_isWithin) (by decide +kernel), trivial⟩ ⟨cP_blind, cP_pre hPc hG hDc⟩ rfl rfl hl.1 rfl (lv_room (Nat.le_of_ble_eq_true rfl)) dX3_isInBounds_61 ⟨Nat.le_of_ble_eq_true rfl, Nat.le_of_ble_eq_true rfl⟩)) (fun r_9 hr_9 => ?_)
            rw [bnd_eq hr_9.symm] at hR
            refine lv_if_eq (tgt := 84) hx hb dX3_isInBounds_64 (by decide) (fun c_10 => ?_) (fun c_10 => ?_)
            · rw [if_pos c_10] at hR
              refine lv_iconst (v := 0) hx hb dX3_isInBounds_84 (by decide) ?_
              subst hR
              exact W.zret (v := 0) hx hb hr rfl (fun t ht hW => ⟨0, rfl, rfl, ht.trans hH⟩) t_nil dX3_isInBounds_85
            · rw [if_neg c_10] at hR
              refine lv_aload_n hx hb dX3_isInBounds_67 rfl (lv_at hl 0 rfl) ?_
              refine va_get (D := (dC, dI)) (ci := 3) (v := .int g4) (C := RX3) (T := TX3) (N := 6) hx hb hts inc_X3_isInBounds_3 hown hG.1 hP 0 rfl rfl 4 (by decide) (hts (.fieldLink RX3 24 "MappingDesk$Segment" "sourceColumn" "I") (by decide +kernel)) (fun _ h9 => h9) rfl dX3_isInBounds_68 ?_
              refine lv_i2l hx hb dX3_isInBounds_71 rfl ?_
              refine lv_ldc (v := 999999) hx hb hown (hts (.constant RX3 34 999999) (by decide +kernel)) dX3_isInBounds_72 ?_
              have hPc := hP.sub (ws' := []) [] rfl
              have hDc := hD0.sub (ws' := []) [] (by decide) rfl
              refine vp_callSi (va_Run.run (va_runSN (As := [.long ((g4 : Int32).toInt64), .int 999999]) (rest := []) ⟨hx, hb, hml, hown, hts⟩ (c_X8_isWithin l dC dI cB cC cI cJ H.size ((g4 : Int32).toInt64) 999999 ) ⟨va_cnB 2 hts gX3_isInBounds_X8_isWithin_n30 rfl rfl rfl (hG.nm (A := #[]) (w := .methodLinkNest RX3 30 yX8_isWithin "MappingDesk") (by decide +kernel)) (hts (.initialized RX8) (by decide +kernel)) (by decide +kernel) ⟨(Nat.le_of_ble_eq_true rfl), (Nat.le_of_ble_eq_true rfl)⟩, hts (.static yX8_isWithin) (by decide +kernel), trivial⟩ ⟨cP_blind, cP_pre hPc hG hDc⟩ rfl rfl hl.1 rfl (lv_room (Nat.le_of_ble_eq_true rfl)) dX3_isInBounds_74 ⟨Nat.le_of_ble_eq_true rfl, Nat.le_of_ble_eq_true rfl⟩)) (fun r_11 hr_11 => ?_)
              rw [bnd_eq hr_11.symm] at hR
              refine lv_if_eq (tgt := 84) hx hb dX3_isInBounds_77 (by decide) (fun c_12 => ?_) (fun c_12 => ?_)
              · rw [if_pos c_12] at hR
                refine lv_iconst (v := 0) hx hb dX3_isInBounds_84 (by decide) ?_
                subst hR
                exact W.zret (v := 0) hx hb hr rfl (fun t ht hW => ⟨0, rfl, rfl, ht.trans hH⟩) t_nil dX3_isInBounds_85
              · rw [if_neg c_12] at hR
                refine lv_iconst (v := 1) hx hb dX3_isInBounds_80 (by decide) ?_
                refine lv_goto (tgt := 85) hx hb dX3_isInBounds_81 (by decide) ?_
                subst hR
                exact W.zret (v := 1) hx hb hr rfl (fun t ht hW => ⟨1, rfl, rfl, ht.trans hH⟩) t_nil dX3_isInBounds_85
    · rw [if_pos c_4] at hR
      refine lv_iconst (v := 0) hx hb dX3_isInBounds_27 (by decide) ?_
      subst hR
      exact W.zret (v := 0) hx hb hr rfl (fun t ht hW => ⟨0, rfl, rfl, ht.trans hH⟩) t_nil dX3_isInBounds_28

def fX2_refuse (nc ss ib li ff fp : Int32) (x y : Int32) : Int32 × Int32 :=
  (x, y)
theorem inc_X2_refuse_2 : ∀ w ∈ u_ws RX2 TX2 11, w ∈ wsX2_refuse := by decide +kernel
set_option maxHeartbeats 4000000 in
set_option maxRecDepth 100000 in
theorem c_X2_refuse (l : Launch) (dC : Nat → ClassId) (dI : Nat → Nat → Nat) (cB cC cI cJ : ClassId) (sz : Nat) (h0 r0 r1 r2 r3 r4 : Nat) (nc ss ib li ff fp : Int32) (x y : Int32) : Met l yX2_refuse wsX2_refuse ({ frames := 0, cells := 0, slots := 0, locals := 0 } : Room) (cP dC dI cB cC cI cJ [.ref h0, .int x, .int y] sz [(h0, .inr (2, [.ref r0, .ref r1, .ref r2, .ref r3, .ref r4, .int nc, .int ss, .int ib, .int li, .int ff, .int fp]))]) (va_Qv (fun _ => True) (cE dC dI (va_A [(h0, .inr (2, [.ref r0, .ref r1, .ref r2, .ref r3, .ref r4, .int nc, .int ss, .int ib, .int li, .int ff, .int fp]))] sz) [(h0, .inr (2, [.ref r0, .ref r1, .ref r2, .ref r3, .ref r4, .int nc, .int ss, .int ib, .int li, .int (fX2_refuse nc ss ib li ff fp x y).1, .int (fX2_refuse nc ss ib li ff fp x y).2]))]) (va_A [(h0, .inr (2, [.ref r0, .ref r1, .ref r2, .ref r3, .ref r4, .int nc, .int ss, .int ib, .int li, .int ff, .int fp]))] sz)) 0 0 (va_A [(h0, .inr (2, [.ref r0, .ref r1, .ref r2, .ref r3, .ref r4, .int nc, .int ss, .int ib, .int li, .int ff, .int fp]))] sz) := by
  refine Met.ofW (cc := cX2_refuse) (maxL := 3) (ret := none) (by decide) rfl ?_
  intro p e s m args below meth c s₁ B hml hv
  obtain ⟨rfl, hsz, hP, hG, hD0⟩ := hv
  have hx := B.exec
  have hb := B.bytes
  have hr := B.returns
  have hts := atoms_spec (ws := wsX2_refuse) B.pre
  have hown : s.vm.findClass RX2 = some m.cls := findClass_of_methodNamed B.named
  have hlocks := B.notSynchronized
  subst hsz
  have hD := hD0.self (sz := s.heap.size)
  generalize hAe : va_A [(h0, .inr (2, [.ref r0, .ref r1, .ref r2, .ref r3, .ref r4, .int nc, .int ss, .int ib, .int li, .int ff, .int fp]))] s.heap.size = A at hD ⊢
  have hA : ∀ q : Nat, s.heap.size ≤ q → A q := fun q h => by rw [← hAe]; exact Or.inr h
  obtain ⟨H, hH⟩ : ∃ H : Heap, H = s.heap := ⟨_, rfl⟩
  have hS : va_S A s.heap H [] := by rw [hH]; exact va_S.rf
  rw [← hH] at hP ⊢
  generalize hR : fX2_refuse nc ss ib li ff fp x y = R
  unfold fX2_refuse at hR
  have hl := lv_entry ([.ref h0, .int x, .int y]) (n := 3) (Nat.le_of_ble_eq_true rfl)
  rw [lg_entry_eq]
  generalize (lg_sl ([.ref h0, .int x, .int y]) ++ List.replicate (3 - (lg_sl ([.ref h0, .int x, .int y])).length) Slot.unset).toArray = ls at hl ⊢
  have hl : lv_has ls 3 [(0, .ref h0), (1, .int x), (2, .int y)] := hl
  refine lv_aload_n hx hb dX2_refuse_0 rfl (lv_at hl 0 rfl) ?_
  refine lv_iload_n hx hb dX2_refuse_1 rfl (lv_at hl 1 rfl) ?_
  refine va_put (D := (dC, dI)) (ci := 2) (v := .int x) (ty := .int) (C := RX2) (T := TX2) (N := 11) hx hb hts inc_X2_refuse_2 tyX2 tyX2_ok nmX2 hown hG.1 hP hD hS 0 rfl rfl 9 (by decide) (hts (.fieldLink RX2 52 "MappingDesk$Reader" "faultFound" "I") (by decide +kernel)) (fun _ h9 => h9) rfl (by decide +kernel) rfl rfl (Nat.le_of_ble_eq_true rfl) dX2_refuse_2 (fun H locs hP hD hS => ?_)
  have hP : va_P (dC, dI) vwCl [(h0, .inr (2, [.ref r0, .ref r1, .ref r2, .ref r3, .ref r4, .int nc, .int ss, .int ib, .int li, .int x, .int fp]))] H := hP
  have hD : va_D A [(h0, .inr (2, [.ref r0, .ref r1, .ref r2, .ref r3, .ref r4, .int nc, .int ss, .int ib, .int li, .int x, .int fp]))] := hD
  refine lv_aload_n hx hb dX2_refuse_5 rfl (lv_at hl 0 rfl) ?_
  refine lv_iload_n hx hb dX2_refuse_6 rfl (lv_at hl 2 rfl) ?_
  refine va_put (D := (dC, dI)) (ci := 2) (v := .int y) (ty := .int) (C := RX2) (T := TX2) (N := 11) hx hb hts inc_X2_refuse_2 tyX2 tyX2_ok nmX2 hown hG.1 hP hD hS 0 rfl rfl 10 (by decide) (hts (.fieldLink RX2 89 "MappingDesk$Reader" "faultPlace" "I") (by decide +kernel)) (fun _ h9 => h9) rfl (by decide +kernel) rfl rfl (Nat.le_of_ble_eq_true rfl) dX2_refuse_7 (fun H locs hP hD hS => ?_)
  have hP : va_P (dC, dI) vwCl [(h0, .inr (2, [.ref r0, .ref r1, .ref r2, .ref r3, .ref r4, .int nc, .int ss, .int ib, .int li, .int x, .int y]))] H := hP
  have hD : va_D A [(h0, .inr (2, [.ref r0, .ref r1, .ref r2, .ref r3, .ref r4, .int nc, .int ss, .int ib, .int li, .int x, .int y]))] := hD
  subst hR
  exact W.vret hx hb hr (fun t ht hW => ⟨⟨(), rfl, trivial, by rw [ht]; exact hP, hD⟩, hS.F ht⟩) hS.2.2 dX2_refuse_10

theorem inc_X2_exchangeTable_2 : ∀ w ∈ u_ws RX2 TX2 11, w ∈ wsX2_exchangeTable := by decide +kernel
set_option maxHeartbeats 4000000 in
set_option maxRecDepth 100000 in
theorem c_X2_exchangeTable (l : Launch) (dC : Nat → ClassId) (dI : Nat → Nat → Nat) (cB cC cI cJ : ClassId) (sz : Nat) (h0 r0 r1 r2 r3 r4 h1 : Nat) (nc ss ib li ff fp : Int32) : Met l yX2_exchangeTable wsX2_exchangeTable ({ frames := 0, cells := 0, slots := 0, locals := 0 } : Room) (cP dC dI cB cC cI cJ [.ref h0, .ref h1] sz [(h0, .inr (2, [.ref r0, .ref r1, .ref r2, .ref r3, .ref r4, .int nc, .int ss, .int ib, .int li, .int ff, .int fp]))]) (va_Qr (S := Unit) (fun _ => True) (fun _ a t => a = r4 ∧ cE dC dI (va_A [(h0, .inr (2, [.ref r0, .ref r1, .ref r2, .ref r3, .ref r4, .int nc, .int ss, .int ib, .int li, .int ff, .int fp]))] sz) [(h0, .inr (2, [.ref r0, .ref r1, .ref r2, .ref r3, .ref h1, .int nc, .int ss, .int ib, .int li, .int ff, .int fp]))] () t) (va_A [(h0, .inr (2, [.ref r0, .ref r1, .ref r2, .ref r3, .ref r4, .int nc, .int ss, .int ib, .int li, .int ff, .int fp]))] sz)) 0 0 (va_A [(h0, .inr (2, [.ref r0, .ref r1, .ref r2, .ref r3, .ref r4, .int nc, .int ss, .int ib, .int li, .int ff, .int fp]))] sz) := by
  refine Met.ofW (cc := cX2_exchangeTable) (maxL := 3) (ret := (some (.object "MappingDesk$Table"))) (by decide) rfl ?_
  intro p e s m args below meth c s₁ B hml hv
  obtain ⟨rfl, hsz, hP, hG, hD0⟩ := hv
  have hx := B.exec
  have hb := B.bytes
  have hr := B.returns
  have hts := atoms_spec (ws := wsX2_exchangeTable) B.pre
  have hown : s.vm.findClass RX2 = some m.cls := findClass_of_methodNamed B.named
  have hlocks := B.notSynchronized
  subst hsz
  have hD := hD0.self (sz := s.heap.size)
  generalize hAe : va_A [(h0, .inr (2, [.ref r0, .ref r1, .ref r2, .ref r3, .ref r4, .int nc, .int ss, .int ib, .int li, .int ff, .int fp]))] s.heap.size = A at hD ⊢
  have hA : ∀ q : Nat, s.heap.size ≤ q → A q := fun q h => by rw [← hAe]; exact Or.inr h
  obtain ⟨H, hH⟩ : ∃ H : Heap, H = s.heap := ⟨_, rfl⟩
  have hS : va_S A s.heap H [] := by rw [hH]; exact va_S.rf
  rw [← hH] at hP ⊢
  have hl := lv_entry ([.ref h0, .ref h1]) (n := 3) (Nat.le_of_ble_eq_true rfl)
  rw [lg_entry_eq]
  generalize (lg_sl ([.ref h0, .ref h1]) ++ List.replicate (3 - (lg_sl ([.ref h0, .ref h1])).length) Slot.unset).toArray = ls at hl ⊢
  have hl : lv_has ls 3 [(0, .ref h0), (1, .ref h1)] := hl
  refine lv_aload_n hx hb dX2_exchangeTable_0 rfl (lv_at hl 0 rfl) ?_
  refine va_get (D := (dC, dI)) (ci := 2) (v := .ref r4) (C := RX2) (T := TX2) (N := 11) hx hb hts inc_X2_exchangeTable_2 hown hG.1 hP 0 rfl rfl 4 (by decide) (hts (.fieldLink RX2 39 "MappingDesk$Reader" "filled" "LMappingDesk$Table;") (by decide +kernel)) (fun _ h9 => h9) rfl dX2_exchangeTable_1 ?_
  refine lv_astore_n (lv' := [(2, .ref r4), (0, .ref h0), (1, .ref h1)]) hx hb dX2_exchangeTable_4 rfl hl (by decide) rfl (fun ls hl => ?_)
  refine lv_aload_n hx hb dX2_exchangeTable_5 rfl (lv_at hl 1 rfl) ?_
  refine lv_aload_n hx hb dX2_exchangeTable_6 rfl (lv_at hl 2 rfl) ?_
  refine va_put (D := (dC, dI)) (ci := 2) (v := .ref h1) (ty := .object "MappingDesk$Table") (C := RX2) (T := TX2) (N := 11) hx hb hts inc_X2_exchangeTable_2 tyX2 tyX2_ok nmX2 hown hG.1 hP hD hS 0 rfl rfl 4 (by decide) (hts (.fieldLink RX2 39 "MappingDesk$Reader" "filled" "LMappingDesk$Table;") (by decide +kernel)) (fun _ h9 => h9) rfl (by decide +kernel) rfl rfl (Nat.le_of_ble_eq_true rfl) dX2_exchangeTable_7 (fun H locs hP hD hS => ?_)
  have hP : va_P (dC, dI) vwCl [(h0, .inr (2, [.ref r0, .ref r1, .ref r2, .ref r3, .ref h1, .int nc, .int ss, .int ib, .int li, .int ff, .int fp]))] H := hP
  have hD : va_D A [(h0, .inr (2, [.ref r0, .ref r1, .ref r2, .ref r3, .ref h1, .int nc, .int ss, .int ib, .int li, .int ff, .int fp]))] := hD
  refine lv_aload_n hx hb dX2_exchangeTable_10 rfl (lv_at hl 0 rfl) ?_
  skip
  exact W.aret (v := .ref r4) hx hb hr (Or.inl ⟨_, rfl⟩) (Or.inr ⟨_, rfl⟩) (fun t ht hW => ⟨⟨(), r4, rfl, trivial, rfl, by rw [ht]; exact hP, hD⟩, hS.F ht⟩) hS.2.2 dX2_exchangeTable_11

def fX2_start (nc ss ib li ff fp : Int32) (n0 n1 : Int32) (n2 : Int64) (n3 n4 : Int32) (a0 a1 a2 a3 a4 : Int32) (cn : Int32) : Int32 × Int32 × Int32 × Int32 × Int32 × Int32 × Int32 × Int32 × Int32 × Int32 × Int32 × Int32 × Int32 :=
  bnd (fX1_forget n0 n1 n2 n3 n4) fun r_1 =>
  bnd (fX0_startText a0 a1 a2 a3 a4) fun r_2 =>
  (0, 0, 0, 0, 0, 0, r_1, r_2.1, r_2.2.1, r_2.2.2.1, r_2.2.2.2.1, r_2.2.2.2.2, 0)
theorem inc_X2_start_2 : ∀ w ∈ u_ws RX2 TX2 11, w ∈ wsX2_start := by decide +kernel
theorem inc_X2_start_4 : ∀ w ∈ u_ws RX4 TX4 7, w ∈ wsX2_start := by decide +kernel
set_option maxHeartbeats 4000000 in
set_option maxRecDepth 100000 in
theorem c_X2_start (l : Launch) (dC : Nat → ClassId) (dI : Nat → Nat → Nat) (cB cC cI cJ : ClassId) (sz : Nat) (h0 r0 r1 r2 r3 r4 q0 q1 q2 q3 q4 q5 : Nat) (nc ss ib li ff fp : Int32) (n0 n1 : Int32) (n2 : Int64) (n3 n4 : Int32) (a0 a1 a2 a3 a4 : Int32) (cn : Int32) : Met l yX2_start wsX2_start ({ frames := 1, cells := 0, slots := 0, locals := 20 } : Room) (cP dC dI cB cC cI cJ [.ref h0] sz [(h0, .inr (2, [.ref r0, .ref r1, .ref r2, .ref r3, .ref r4, .int nc, .int ss, .int ib, .int li, .int ff, .int fp])), (r0, .inr (1, [.int n0, .int n1, .long n2, .int n3, .int n4])), (r2, .inr (0, [.int a0, .int a1, .int a2, .int a3, .int a4])), (r4, .inr (4, [.ref q0, .ref q1, .ref q2, .ref q3, .ref q4, .ref q5, .int cn]))]) (va_Qv (fun _ => ((fX2_start nc ss ib li ff fp n0 n1 n2 n3 n4 a0 a1 a2 a3 a4 cn).2.2.2.2.2.2.2.2.2.2.2.2.toInt = 0) ∧ ((fX2_start nc ss ib li ff fp n0 n1 n2 n3 n4 a0 a1 a2 a3 a4 cn).1.toInt = 0)) (cE dC dI (va_A [(h0, .inr (2, [.ref r0, .ref r1, .ref r2, .ref r3, .ref r4, .int nc, .int ss, .int ib, .int li, .int ff, .int fp])), (r0, .inr (1, [.int n0, .int n1, .long n2, .int n3, .int n4])), (r2, .inr (0, [.int a0, .int a1, .int a2, .int a3, .int a4])), (r4, .inr (4, [.ref q0, .ref q1, .ref q2, .ref q3, .ref q4, .ref q5, .int cn]))] sz) [(h0, .inr (2, [.ref r0, .ref r1, .ref r2, .ref r3, .ref r4, .int (fX2_start nc ss ib li ff fp n0 n1 n2 n3 n4 a0 a1 a2 a3 a4 cn).1, .int (fX2_start nc ss ib li ff fp n0 n1 n2 n3 n4 a0 a1 a2 a3 a4 cn).2.1, .int (fX2_start nc ss ib li ff fp n0 n1 n2 n3 n4 a0 a1 a2 a3 a4 cn).2.2.1, .int (fX2_start nc ss ib li ff fp n0 n1 n2 n3 n4 a0 a1 a2 a3 a4 cn).2.2.2.1, .int (fX2_start nc ss ib li ff fp n0 n1 n2 n3 n4 a0 a1 a2 a3 a4 cn).2.2.2.2.1, .int (fX2_start nc ss ib li ff fp n0 n1 n2 n3 n4 a0 a1 a2 a3 a4 cn).2.2.2.2.2.1])), (r0, .inr (1, [.int (fX2_start nc ss ib li ff fp n0 n1 n2 n3 n4 a0 a1 a2 a3 a4 cn).2.2.2.2.2.2.1, .int n1, .long n2, .int n3, .int n4])), (r2, .inr (0, [.int (fX2_start nc ss ib li ff fp n0 n1 n2 n3 n4 a0 a1 a2 a3 a4 cn).2.2.2.2.2.2.2.1, .int (fX2_start nc ss ib li ff fp n0 n1 n2 n3 n4 a0 a1 a2 a3 a4 cn).2.2.2.2.2.2.2.2.1, .int (fX2_start nc ss ib li ff fp n0 n1 n2 n3 n4 a0 a1 a2 a3 a4 cn).2.2.2.2.2.2.2.2.2.1, .int (fX2_start nc ss ib li ff fp n0 n1 n2 n3 n4 a0 a1 a2 a3 a4 cn).2.2.2.2.2.2.2.2.2.2.1, .int (fX2_start nc ss ib li ff fp n0 n1 n2 n3 n4 a0 a1 a2 a3 a4 cn).2.2.2.2.2.2.2.2.2.2.2.1])), (r4, .inr (4, [.ref q0, .ref q1, .ref q2, .ref q3, .ref q4, .ref q5, .int (fX2_start nc ss ib li ff fp n0 n1 n2 n3 n4 a0 a1 a2 a3 a4 cn).2.2.2.2.2.2.2.2.2.2.2.2]))]) (va_A [(h0, .inr (2, [.ref r0, .ref r1, .ref r2, .ref r3, .ref r4, .int nc, .int ss, .int ib, .int li, .int ff, .int fp])), (r0, .inr (1, [.int n0, .int n1, .long n2, .int n3, .int n4])), (r2, .inr (0, [.int a0, .int a1, .int a2, .int a3, .int a4])), (r4, .inr (4, [.ref q0, .ref q1, .ref q2, .ref q3, .ref q4, .ref q5, .int cn]))] sz)) 0 0 (va_A [(h0, .inr (2, [.ref r0, .ref r1, .ref r2, .ref r3, .ref r4, .int nc, .int ss, .int ib, .int li, .int ff, .int fp])), (r0, .inr (1, [.int n0, .int n1, .long n2, .int n3, .int n4])), (r2, .inr (0, [.int a0, .int a1, .int a2, .int a3, .int a4])), (r4, .inr (4, [.ref q0, .ref q1, .ref q2, .ref q3, .ref q4, .ref q5, .int cn]))] sz) := by
  refine Met.ofW (cc := cX2_start) (maxL := 1) (ret := none) (by decide) rfl ?_
  intro p e s m args below meth c s₁ B hml hv
  obtain ⟨rfl, hsz, hP, hG, hD0⟩ := hv
  have hx := B.exec
  have hb := B.bytes
  have hr := B.returns
  have hts := atoms_spec (ws := wsX2_start) B.pre
  have hown : s.vm.findClass RX2 = some m.cls := findClass_of_methodNamed B.named
  have hlocks := B.notSynchronized
  subst hsz
  have hD := hD0.self (sz := s.heap.size)
  generalize hAe : va_A [(h0, .inr (2, [.ref r0, .ref r1, .ref r2, .ref r3, .ref r4, .int nc, .int ss, .int ib, .int li, .int ff, .int fp])), (r0, .inr (1, [.int n0, .int n1, .long n2, .int n3, .int n4])), (r2, .inr (0, [.int a0, .int a1, .int a2, .int a3, .int a4])), (r4, .inr (4, [.ref q0, .ref q1, .ref q2, .ref q3, .ref q4, .ref q5, .int cn]))] s.heap.size = A at hD ⊢
  have hA : ∀ q : Nat, s.heap.size ≤ q → A q := fun q h => by rw [← hAe]; exact Or.inr h
  obtain ⟨H, hH⟩ : ∃ H : Heap, H = s.heap := ⟨_, rfl⟩
  have hS : va_S A s.heap H [] := by rw [hH]; exact va_S.rf
  rw [← hH] at hP ⊢
  generalize hR : fX2_start nc ss ib li ff fp n0 n1 n2 n3 n4 a0 a1 a2 a3 a4 cn = R
  unfold fX2_start at hR
  have hl := lv_entry ([.ref h0]) (n := 1) (Nat.le_of_ble_eq_true rfl)
  rw [lg_entry_eq]
  generalize (lg_sl ([.ref h0]) ++ List.replicate (1 - (lg_sl ([.ref h0])).length) Slot.unset).toArray = ls at hl ⊢
  have hl : lv_has ls 1 [(0, .ref h0)] := hl
  refine lv_aload_n hx hb dX2_start_0 rfl (lv_at hl 0 rfl) ?_
  refine va_get (D := (dC, dI)) (ci := 2) (v := .ref r4) (C := RX2) (T := TX2) (N := 11) hx hb hts inc_X2_start_2 hown hG.1 hP 0 rfl rfl 4 (by decide) (hts (.fieldLink RX2 39 "MappingDesk$Reader" "filled" "LMappingDesk$Table;") (by decide +kernel)) (fun _ h9 => h9) rfl dX2_start_1 ?_
  refine lv_iconst (v := 0) hx hb dX2_start_4 (by decide) ?_
  refine va_putN (D := (dC, dI)) (ci := 4) (v := .int 0) (ty := .int) (C := RX4) (T := TX4) (N := 7) hx hb hts inc_X2_start_4 tyX4 tyX4_ok nmX4 hown hG.1 hP hD hS 3 rfl rfl 6 (by decide) (hG.nf (a := RX2) (i := 67) (b := "MappingDesk$Table") (n := "count") (d := "I") (t := "MappingDesk") (by decide +kernel)) (fun _ h9 => h9) rfl (by decide +kernel) rfl rfl (Nat.le_of_ble_eq_true rfl) dX2_start_5 (fun H locs hP hD hS => ?_)
  have hP : va_P (dC, dI) vwCl [(h0, .inr (2, [.ref r0, .ref r1, .ref r2, .ref r3, .ref r4, .int nc, .int ss, .int ib, .int li, .int ff, .int fp])), (r0, .inr (1, [.int n0, .int n1, .long n2, .int n3, .int n4])), (r2, .inr (0, [.int a0, .int a1, .int a2, .int a3, .int a4])), (r4, .inr (4, [.ref q0, .ref q1, .ref q2, .ref q3, .ref q4, .ref q5, .int 0]))] H := hP
  have hD : va_D A [(h0, .inr (2, [.ref r0, .ref r1, .ref r2, .ref r3, .ref r4, .int nc, .int ss, .int ib, .int li, .int ff, .int fp])), (r0, .inr (1, [.int n0, .int n1, .long n2, .int n3, .int n4])), (r2, .inr (0, [.int a0, .int a1, .int a2, .int a3, .int a4])), (r4, .inr (4, [.ref q0, .ref q1, .ref q2, .ref q3, .ref q4, .ref q5, .int 0]))] := hD
  refine lv_aload_n hx hb dX2_start_8 rfl (lv_at hl 0 rfl) ?_
  refine va_get (D := (dC, dI)) (ci := 2) (v := .ref r0) (C := RX2) (T := TX2) (N := 11) hx hb hts inc_X2_start_2 hown hG.1 hP 0 rfl rfl 0 (by decide) (hts (.fieldLink RX2 12 "MappingDesk$Reader" "number" "LMappingDesk$NumberTaker;") (by decide +kernel)) (fun _ h9 => h9) rfl dX2_start_9 ?_
  have hPc := hP.sub (ws' := [(r0, .inr (1, [.int n0, .int n1, .long n2, .int n3, .int n4]))]) [1] rfl
  have hDc := hD.sub (ws' := [(r0, .inr (1, [.int n0, .int n1, .long n2, .int n3, .int n4]))]) [1] (by decide) rfl
  have hFc := va_free (wc := [(r0, .inr (1, [.int n0, .int n1, .long n2, .int n3, .int n4]))]) hD hS hA [1] rfl
  refine va_callv (va_runVN (C := RX1) (As := []) (rest := []) ⟨hx, hb, hml, hown, hts⟩ (c_X1_forget l dC dI cB cC cI cJ H.size r0 n0 n1 n2 n3 n4 ) ⟨va_cnB 0 hts gX2_start_X1_forget_n70 rfl rfl rfl (hG.nm (A := #[]) (w := .methodLinkNest RX2 70 yX1_forget "MappingDesk") (by decide +kernel)) (hts (.initialized RX1) (by decide +kernel)) (by decide +kernel) ⟨(Nat.le_of_ble_eq_true rfl), (Nat.le_of_ble_eq_true rfl)⟩, hts (.instanceMethod yX1_forget) (by decide +kernel), hts (.selects RX1 yX1_forget yX1_forget) (by decide +kernel)⟩ ⟨cP_blind, va_recv hG.1 hPc (ci := 1) (q0 := 0) rfl rfl, cP_pre hPc hG hDc⟩ rfl rfl hl.1 rfl (lv_room (Nat.le_of_ble_eq_true rfl)) dX2_start_12 ⟨Nat.le_of_ble_eq_true rfl, Nat.le_of_ble_eq_true rfl⟩) hS (fun q _ h => hFc q h) hFc (fun u t H1 locs ht hvm hw hB hz1 hk1 hS => ?_)
  obtain ⟨hP1, hD1⟩ := hB
  rw [ht] at hP1
  generalize hr_1 : fX1_forget n0 n1 n2 n3 n4 = r_1 at hP1 hD1
  rw [bnd_eq hr_1] at hR
  obtain ⟨hP, hD⟩ := va_join (wr := [(h0, .inr (2, [.ref r0, .ref r1, .ref r2, .ref r3, .ref r4, .int nc, .int ss, .int ib, .int li, .int ff, .int fp])), (r2, .inr (0, [.int a0, .int a1, .int a2, .int a3, .int a4])), (r4, .inr (4, [.ref q0, .ref q1, .ref q2, .ref q3, .ref q4, .ref q5, .int 0]))]) (w1 := [(r0, .inr (1, [.int r_1, .int n1, .long n2, .int n3, .int n4]))]) hP hD [1] [0, 2, 3] rfl rfl (by decide) (by decide) hk1 hFc hP1 hD1
  generalize H1 = H at hP hS ⊢
  have hP := hP.sub (ws' := [(h0, .inr (2, [.ref r0, .ref r1, .ref r2, .ref r3, .ref r4, .int nc, .int ss, .int ib, .int li, .int ff, .int fp])), (r0, .inr (1, [.int r_1, .int n1, .long n2, .int n3, .int n4])), (r2, .inr (0, [.int a0, .int a1, .int a2, .int a3, .int a4])), (r4, .inr (4, [.ref q0, .ref q1, .ref q2, .ref q3, .ref q4, .ref q5, .int 0]))]) [0, 3, 1, 2] rfl
  have hD := hD.sub (ws' := [(h0, .inr (2, [.ref r0, .ref r1, .ref r2, .ref r3, .ref r4, .int nc, .int ss, .int ib, .int li, .int ff, .int fp])), (r0, .inr (1, [.int r_1, .int n1, .long n2, .int n3, .int n4])), (r2, .inr (0, [.int a0, .int a1, .int a2, .int a3, .int a4])), (r4, .inr (4, [.ref q0, .ref q1, .ref q2, .ref q3, .ref q4, .ref q5, .int 0]))]) [0, 3, 1, 2] (by decide) rfl
  refine lv_aload_n hx hb dX2_start_15 rfl (lv_at hl 0 rfl) ?_
  refine va_get (D := (dC, dI)) (ci := 2) (v := .ref r2) (C := RX2) (T := TX2) (N := 11) hx hb hts inc_X2_start_2 hown hG.1 hP 0 rfl rfl 2 (by decide) (hts (.fieldLink RX2 25 "MappingDesk$Reader" "ahead" "LMappingDesk$Ahead;") (by decide +kernel)) (fun _ h9 => h9) rfl dX2_start_16 ?_
  have hPc := hP.sub (ws' := [(r2, .inr (0, [.int a0, .int a1, .int a2, .int a3, .int a4]))]) [2] rfl
  have hDc := hD.sub (ws' := [(r2, .inr (0, [.int a0, .int a1, .int a2, .int a3, .int a4]))]) [2] (by decide) rfl
  have hFc := va_free (wc := [(r2, .inr (0, [.int a0, .int a1, .int a2, .int a3, .int a4]))]) hD hS hA [2] rfl
  refine va_callv (va_runVN (C := RX0) (As := []) (rest := []) ⟨hx, hb, hml, hown, hts⟩ (c_X0_startText l dC dI cB cC cI cJ H.size r2 a0 a1 a2 a3 a4 ) ⟨va_cnB 0 hts gX2_start_X0_startText_n73 rfl rfl rfl (hG.nm (A := #[]) (w := .methodLinkNest RX2 73 yX0_startText "MappingDesk") (by decide +kernel)) (hts (.initialized RX0) (by decide +kernel)) (by decide +kernel) ⟨(Nat.le_of_ble_eq_true rfl), (Nat.le_of_ble_eq_true rfl)⟩, hts (.instanceMethod yX0_startText) (by decide +kernel), hts (.selects RX0 yX0_startText yX0_startText) (by decide +kernel)⟩ ⟨cP_blind, va_recv hG.1 hPc (ci := 0) (q0 := 0) rfl rfl, cP_pre hPc hG hDc⟩ rfl rfl hl.1 rfl (lv_room (Nat.le_of_ble_eq_true rfl)) dX2_start_19 ⟨Nat.le_of_ble_eq_true rfl, Nat.le_of_ble_eq_true rfl⟩) hS (fun q _ h => hFc q h) hFc (fun u t H1 locs ht hvm hw hB hz1 hk1 hS => ?_)
  obtain ⟨hP1, hD1⟩ := hB
  rw [ht] at hP1
  generalize hr_2 : fX0_startText a0 a1 a2 a3 a4 = r_2 at hP1 hD1
  rw [bnd_eq hr_2] at hR
  obtain ⟨hP, hD⟩ := va_join (wr := [(h0, .inr (2, [.ref r0, .ref r1, .ref r2, .ref r3, .ref r4, .int nc, .int ss, .int ib, .int li, .int ff, .int fp])), (r0, .inr (1, [.int r_1, .int n1, .long n2, .int n3, .int n4])), (r4, .inr (4, [.ref q0, .ref q1, .ref q2, .ref q3, .ref q4, .ref q5, .int 0]))]) (w1 := [(r2, .inr (0, [.int r_2.1, .int r_2.2.1, .int r_2.2.2.1, .int r_2.2.2.2.1, .int r_2.2.2.2.2]))]) hP hD [2] [0, 1, 3] rfl rfl (by decide) (by decide) hk1 hFc hP1 hD1
  generalize H1 = H at hP hS ⊢
  have hP := hP.sub (ws' := [(h0, .inr (2, [.ref r0, .ref r1, .ref r2, .ref r3, .ref r4, .int nc, .int ss, .int ib, .int li, .int ff, .int fp])), (r0, .inr (1, [.int r_1, .int n1, .long n2, .int n3, .int n4])), (r2, .inr (0, [.int r_2.1, .int r_2.2.1, .int r_2.2.2.1, .int r_2.2.2.2.1, .int r_2.2.2.2.2])), (r4, .inr (4, [.ref q0, .ref q1, .ref q2, .ref q3, .ref q4, .ref q5, .int 0]))]) [0, 1, 3, 2] rfl
  have hD := hD.sub (ws' := [(h0, .inr (2, [.ref r0, .ref r1, .ref r2, .ref r3, .ref r4, .int nc, .int ss, .int ib, .int li, .int ff, .int fp])), (r0, .inr (1, [.int r_1, .int n1, .long n2, .int n3, .int n4])), (r2, .inr (0, [.int r_2.1, .int r_2.2.1, .int r_2.2.2.1, .int r_2.2.2.2.1, .int r_2.2.2.2.2])), (r4, .inr (4, [.ref q0, .ref q1, .ref q2, .ref q3, .ref q4, .ref q5, .int 0]))]) [0, 1, 3, 2] (by decide) rfl
  refine lv_aload_n hx hb dX2_start_22 rfl (lv_at hl 0 rfl) ?_
  refine lv_iconst (v := 0) hx hb dX2_start_23 (by decide) ?_
  refine va_put (D := (dC, dI)) (ci := 2) (v := .int 0) (ty := .int) (C := RX2) (T := TX2) (N := 11) hx hb hts inc_X2_start_2 tyX2 tyX2_ok nmX2 hown hG.1 hP hD hS 0 rfl rfl 5 (by decide) (hts (.fieldLink RX2 76 "MappingDesk$Reader" "numberCount" "I") (by decide +kernel)) (fun _ h9 => h9) rfl (by decide +kernel) rfl rfl (Nat.le_of_ble_eq_true rfl) dX2_start_24 (fun H locs hP hD hS => ?_)
  have hP : va_P (dC, dI) vwCl [(h0, .inr (2, [.ref r0, .ref r1, .ref r2, .ref r3, .ref r4, .int 0, .int ss, .int ib, .int li, .int ff, .int fp])), (r0, .inr (1, [.int r_1, .int n1, .long n2, .int n3, .int n4])), (r2, .inr (0, [.int r_2.1, .int r_2.2.1, .int r_2.2.2.1, .int r_2.2.2.2.1, .int r_2.2.2.2.2])), (r4, .inr (4, [.ref q0, .ref q1, .ref q2, .ref q3, .ref q4, .ref q5, .int 0]))] H := hP
  have hD : va_D A [(h0, .inr (2, [.ref r0, .ref r1, .ref r2, .ref r3, .ref r4, .int 0, .int ss, .int ib, .int li, .int ff, .int fp])), (r0, .inr (1, [.int r_1, .int n1, .long n2, .int n3, .int n4])), (r2, .inr (0, [.int r_2.1, .int r_2.2.1, .int r_2.2.2.1, .int r_2.2.2.2.1, .int r_2.2.2.2.2])), (r4, .inr (4, [.ref q0, .ref q1, .ref q2, .ref q3, .ref q4, .ref q5, .int 0]))] := hD
  refine lv_aload_n hx hb dX2_start_27 rfl (lv_at hl 0 rfl) ?_
  refine lv_iconst (v := 0) hx hb dX2_start_28 (by decide) ?_
  refine va_put (D := (dC, dI)) (ci := 2) (v := .int 0) (ty := .int) (C := RX2) (T := TX2) (N := 11) hx hb hts inc_X2_start_2 tyX2 tyX2_ok nmX2 hown hG.1 hP hD hS 0 rfl rfl 6 (by decide) (hts (.fieldLink RX2 79 "MappingDesk$Reader" "segmentStart" "I") (by decide +kernel)) (fun _ h9 => h9) rfl (by decide +kernel) rfl rfl (Nat.le_of_ble_eq_true rfl) dX2_start_29 (fun H locs hP hD hS => ?_)
  have hP : va_P (dC, dI) vwCl [(h0, .inr (2, [.ref r0, .ref r1, .ref r2, .ref r3, .ref r4, .int 0, .int 0, .int ib, .int li, .int ff, .int fp])), (r0, .inr (1, [.int r_1, .int n1, .long n2, .int n3, .int n4])), (r2, .inr (0, [.int r_2.1, .int r_2.2.1, .int r_2.2.2.1, .int r_2.2.2.2.1, .int r_2.2.2.2.2])), (r4, .inr (4, [.ref q0, .ref q1, .ref q2, .ref q3, .ref q4, .ref q5, .int 0]))] H := hP
  have hD : va_D A [(h0, .inr (2, [.ref r0, .ref r1, .ref r2, .ref r3, .ref r4, .int 0, .int 0, .int ib, .int li, .int ff, .int fp])), (r0, .inr (1, [.int r_1, .int n1, .long n2, .int n3, .int n4])), (r2, .inr (0, [.int r_2.1, .int r_2.2.1, .int r_2.2.2.1, .int r_2.2.2.2.1, .int r_2.2.2.2.2])), (r4, .inr (4, [.ref q0, .ref q1, .ref q2, .ref q3, .ref q4, .ref q5, .int 0]))] := hD
  refine lv_aload_n hx hb dX2_start_32 rfl (lv_at hl 0 rfl) ?_
  refine lv_iconst (v := 0) hx hb dX2_start_33 (by decide) ?_
  refine va_put (D := (dC, dI)) (ci := 2) (v := .int 0) (ty := .boolean) (C := RX2) (T := TX2) (N := 11) hx hb hts inc_X2_start_2 tyX2 tyX2_ok nmX2 hown hG.1 hP hD hS 0 rfl rfl 7 (by decide) (hts (.fieldLink RX2 82 "MappingDesk$Reader" "isBehindComma" "Z") (by decide +kernel)) (fun _ h9 => h9) rfl (by decide +kernel) rfl rfl (Nat.le_of_ble_eq_true rfl) dX2_start_34 (fun H locs hP hD hS => ?_)
  have hP : va_P (dC, dI) vwCl [(h0, .inr (2, [.ref r0, .ref r1, .ref r2, .ref r3, .ref r4, .int 0, .int 0, .int 0, .int li, .int ff, .int fp])), (r0, .inr (1, [.int r_1, .int n1, .long n2, .int n3, .int n4])), (r2, .inr (0, [.int r_2.1, .int r_2.2.1, .int r_2.2.2.1, .int r_2.2.2.2.1, .int r_2.2.2.2.2])), (r4, .inr (4, [.ref q0, .ref q1, .ref q2, .ref q3, .ref q4, .ref q5, .int 0]))] H := hP
  have hD : va_D A [(h0, .inr (2, [.ref r0, .ref r1, .ref r2, .ref r3, .ref r4, .int 0, .int 0, .int 0, .int li, .int ff, .int fp])), (r0, .inr (1, [.int r_1, .int n1, .long n2, .int n3, .int n4])), (r2, .inr (0, [.int r_2.1, .int r_2.2.1, .int r_2.2.2.1, .int r_2.2.2.2.1, .int r_2.2.2.2.2])), (r4, .inr (4, [.ref q0, .ref q1, .ref q2, .ref q3, .ref q4, .ref q5, .int 0]))] := hD
  refine lv_aload_n hx hb dX2_start_37 rfl (lv_at hl 0 rfl) ?_
  refine lv_iconst (v := 0) hx hb dX2_start_38 (by decide) ?_
  refine va_put (D := (dC, dI)) (ci := 2) (v := .int 0) (ty := .int) (C := RX2) (T := TX2) (N := 11) hx hb hts inc_X2_start_2 tyX2 tyX2_ok nmX2 hown hG.1 hP hD hS 0 rfl rfl 8 (by decide) (hts (.fieldLink RX2 86 "MappingDesk$Reader" "line" "I") (by decide +kernel)) (fun _ h9 => h9) rfl (by decide +kernel) rfl rfl (Nat.le_of_ble_eq_true rfl) dX2_start_39 (fun H locs hP hD hS => ?_)
  have hP : va_P (dC, dI) vwCl [(h0, .inr (2, [.ref r0, .ref r1, .ref r2, .ref r3, .ref r4, .int 0, .int 0, .int 0, .int 0, .int ff, .int fp])), (r0, .inr (1, [.int r_1, .int n1, .long n2, .int n3, .int n4])), (r2, .inr (0, [.int r_2.1, .int r_2.2.1, .int r_2.2.2.1, .int r_2.2.2.2.1, .int r_2.2.2.2.2])), (r4, .inr (4, [.ref q0, .ref q1, .ref q2, .ref q3, .ref q4, .ref q5, .int 0]))] H := hP
  have hD : va_D A [(h0, .inr (2, [.ref r0, .ref r1, .ref r2, .ref r3, .ref r4, .int 0, .int 0, .int 0, .int 0, .int ff, .int fp])), (r0, .inr (1, [.int r_1, .int n1, .long n2, .int n3, .int n4])), (r2, .inr (0, [.int r_2.1, .int r_2.2.1, .int r_2.2.2.1, .int r_2.2.2.2.1, .int r_2.2.2.2.2])), (r4, .inr (4, [.ref q0, .ref q1, .ref q2, .ref q3, .ref q4, .ref q5, .int 0]))] := hD
  refine lv_aload_n hx hb dX2_start_42 rfl (lv_at hl 0 rfl) ?_
  refine lv_iconst (v := 0) hx hb dX2_start_43 (by decide) ?_
  refine va_put (D := (dC, dI)) (ci := 2) (v := .int 0) (ty := .int) (C := RX2) (T := TX2) (N := 11) hx hb hts inc_X2_start_2 tyX2 tyX2_ok nmX2 hown hG.1 hP hD hS 0 rfl rfl 9 (by decide) (hts (.fieldLink RX2 52 "MappingDesk$Reader" "faultFound" "I") (by decide +kernel)) (fun _ h9 => h9) rfl (by decide +kernel) rfl rfl (Nat.le_of_ble_eq_true rfl) dX2_start_44 (fun H locs hP hD hS => ?_)
  have hP : va_P (dC, dI) vwCl [(h0, .inr (2, [.ref r0, .ref r1, .ref r2, .ref r3, .ref r4, .int 0, .int 0, .int 0, .int 0, .int 0, .int fp])), (r0, .inr (1, [.int r_1, .int n1, .long n2, .int n3, .int n4])), (r2, .inr (0, [.int r_2.1, .int r_2.2.1, .int r_2.2.2.1, .int r_2.2.2.2.1, .int r_2.2.2.2.2])), (r4, .inr (4, [.ref q0, .ref q1, .ref q2, .ref q3, .ref q4, .ref q5, .int 0]))] H := hP
  have hD : va_D A [(h0, .inr (2, [.ref r0, .ref r1, .ref r2, .ref r3, .ref r4, .int 0, .int 0, .int 0, .int 0, .int 0, .int fp])), (r0, .inr (1, [.int r_1, .int n1, .long n2, .int n3, .int n4])), (r2, .inr (0, [.int r_2.1, .int r_2.2.1, .int r_2.2.2.1, .int r_2.2.2.2.1, .int r_2.2.2.2.2])), (r4, .inr (4, [.ref q0, .ref q1, .ref q2, .ref q3, .ref q4, .ref q5, .int 0]))] := hD
  refine lv_aload_n hx hb dX2_start_47 rfl (lv_at hl 0 rfl) ?_
  refine lv_iconst (v := 0) hx hb dX2_start_48 (by decide) ?_
  refine va_put (D := (dC, dI)) (ci := 2) (v := .int 0) (ty := .int) (C := RX2) (T := TX2) (N := 11) hx hb hts inc_X2_start_2 tyX2 tyX2_ok nmX2 hown hG.1 hP hD hS 0 rfl rfl 10 (by decide) (hts (.fieldLink RX2 89 "MappingDesk$Reader" "faultPlace" "I") (by decide +kernel)) (fun _ h9 => h9) rfl (by decide +kernel) rfl rfl (Nat.le_of_ble_eq_true rfl) dX2_start_49 (fun H locs hP hD hS => ?_)
  have hP : va_P (dC, dI) vwCl [(h0, .inr (2, [.ref r0, .ref r1, .ref r2, .ref r3, .ref r4, .int 0, .int 0, .int 0, .int 0, .int 0, .int 0])), (r0, .inr (1, [.int r_1, .int n1, .long n2, .int n3, .int n4])), (r2, .inr (0, [.int r_2.1, .int r_2.2.1, .int r_2.2.2.1, .int r_2.2.2.2.1, .int r_2.2.2.2.2])), (r4, .inr (4, [.ref q0, .ref q1, .ref q2, .ref q3, .ref q4, .ref q5, .int 0]))] H := hP
  have hD : va_D A [(h0, .inr (2, [.ref r0, .ref r1, .ref r2, .ref r3, .ref r4, .int 0, .int 0, .int 0, .int 0, .int 0, .int 0])), (r0, .inr (1, [.int r_1, .int n1, .long n2, .int n3, .int n4])), (r2, .inr (0, [.int r_2.1, .int r_2.2.1, .int r_2.2.2.1, .int r_2.2.2.2.1, .int r_2.2.2.2.2])), (r4, .inr (4, [.ref q0, .ref q1, .ref q2, .ref q3, .ref q4, .ref q5, .int 0]))] := hD
  have e_3 : (0 : Int32).toInt = 0 := by
    have k_4 : (0 : Int32).toInt = 0 := by decide
    try generalize Int32.toInt (0 : Int32) = z0 at *
    omega
  have e_5 : (0 : Int32).toInt = 0 := by
    have k_6 : (0 : Int32).toInt = 0 := by decide
    try generalize Int32.toInt (0 : Int32) = z0 at *
    omega
  subst hR
  exact W.vret hx hb hr (fun t ht hW => ⟨⟨(), rfl, ⟨e_3, e_5⟩, by rw [ht]; exact hP, hD⟩, hS.F ht⟩) hS.2.2 dX2_start_52

def fX2_startLine (nc ss ib li ff fp : Int32) (a0 a1 a2 a3 a4 : Int32) (x : Int32) : Int32 × Int32 × Int32 × Int32 :=
  if ff = 0 then
    if li < 199 then
      bnd (fX0_startLine a0 a1 a2 a3 a4) fun r_3 =>
      ((li + 1), ff, fp, r_3)
    else
      bnd (fX2_refuse nc ss ib li ff fp 5 x) fun r_4 =>
      (li, r_4.1, r_4.2, a0)
  else
    (li, ff, fp, a0)
theorem inc_X2_startLine_2 : ∀ w ∈ u_ws RX2 TX2 11, w ∈ wsX2_startLine := by decide +kernel
set_option maxHeartbeats 4000000 in
set_option maxRecDepth 100000 in
theorem c_X2_startLine (l : Launch) (dC : Nat → ClassId) (dI : Nat → Nat → Nat) (cB cC cI cJ : ClassId) (sz : Nat) (h0 r0 r1 r2 r3 r4 : Nat) (nc ss ib li ff fp : Int32) (a0 a1 a2 a3 a4 : Int32) (x : Int32) : Met l yX2_startLine wsX2_startLine ({ frames := 1, cells := 0, slots := 0, locals := 22 } : Room) (cP dC dI cB cC cI cJ [.ref h0, .int x] sz [(h0, .inr (2, [.ref r0, .ref r1, .ref r2, .ref r3, .ref r4, .int nc, .int ss, .int ib, .int li, .int ff, .int fp])), (r2, .inr (0, [.int a0, .int a1, .int a2, .int a3, .int a4]))]) (va_Qv (fun _ => True) (cE dC dI (va_A [(h0, .inr (2, [.ref r0, .ref r1, .ref r2, .ref r3, .ref r4, .int nc, .int ss, .int ib, .int li, .int ff, .int fp])), (r2, .inr (0, [.int a0, .int a1, .int a2, .int a3, .int a4]))] sz) [(h0, .inr (2, [.ref r0, .ref r1, .ref r2, .ref r3, .ref r4, .int nc, .int ss, .int ib, .int (fX2_startLine nc ss ib li ff fp a0 a1 a2 a3 a4 x).1, .int (fX2_startLine nc ss ib li ff fp a0 a1 a2 a3 a4 x).2.1, .int (fX2_startLine nc ss ib li ff fp a0 a1 a2 a3 a4 x).2.2.1])), (r2, .inr (0, [.int (fX2_startLine nc ss ib li ff fp a0 a1 a2 a3 a4 x).2.2.2, .int a1, .int a2, .int a3, .int a4]))]) (va_A [(h0, .inr (2, [.ref r0, .ref r1, .ref r2, .ref r3, .ref r4, .int nc, .int ss, .int ib, .int li, .int ff, .int fp])), (r2, .inr (0, [.int a0, .int a1, .int a2, .int a3, .int a4]))] sz)) 0 0 (va_A [(h0, .inr (2, [.ref r0, .ref r1, .ref r2, .ref r3, .ref r4, .int nc, .int ss, .int ib, .int li, .int ff, .int fp])), (r2, .inr (0, [.int a0, .int a1, .int a2, .int a3, .int a4]))] sz) := by
  refine Met.ofW (cc := cX2_startLine) (maxL := 2) (ret := none) (by decide) rfl ?_
  intro p e s m args below meth c s₁ B hml hv
  obtain ⟨rfl, hsz, hP, hG, hD0⟩ := hv
  have hx := B.exec
  have hb := B.bytes
  have hr := B.returns
  have hts := atoms_spec (ws := wsX2_startLine) B.pre
  have hown : s.vm.findClass RX2 = some m.cls := findClass_of_methodNamed B.named
  have hlocks := B.notSynchronized
  subst hsz
  have hD := hD0.self (sz := s.heap.size)
  generalize hAe : va_A [(h0, .inr (2, [.ref r0, .ref r1, .ref r2, .ref r3, .ref r4, .int nc, .int ss, .int ib, .int li, .int ff, .int fp])), (r2, .inr (0, [.int a0, .int a1, .int a2, .int a3, .int a4]))] s.heap.size = A at hD ⊢
  have hA : ∀ q : Nat, s.heap.size ≤ q → A q := fun q h => by rw [← hAe]; exact Or.inr h
  obtain ⟨H, hH⟩ : ∃ H : Heap, H = s.heap := ⟨_, rfl⟩
  have hS : va_S A s.heap H [] := by rw [hH]; exact va_S.rf
  rw [← hH] at hP ⊢
  generalize hR : fX2_startLine nc ss ib li ff fp a0 a1 a2 a3 a4 x = R
  unfold fX2_startLine at hR
  have hl := lv_entry ([.ref h0, .int x]) (n := 2) (Nat.le_of_ble_eq_true rfl)
  rw [lg_entry_eq]
  generalize (lg_sl ([.ref h0, .int x]) ++ List.replicate (2 - (lg_sl ([.ref h0, .int x])).length) Slot.unset).toArray = ls at hl ⊢
  have hl : lv_has ls 2 [(0, .ref h0), (1, .int x)] := hl
  refine lv_aload_n hx hb dX2_startLine_0 rfl (lv_at hl 0 rfl) ?_
  refine va_get (D := (dC, dI)) (ci := 2) (v := .int ff) (C := RX2) (T := TX2) (N := 11) hx hb hts inc_X2_startLine_2 hown hG.1 hP 0 rfl rfl 9 (by decide) (hts (.fieldLink RX2 52 "MappingDesk$Reader" "faultFound" "I") (by decide +kernel)) (fun _ h9 => h9) rfl dX2_startLine_1 ?_
  refine lv_if_eq (tgt := 8) hx hb dX2_startLine_4 (by decide) (fun c_1 => ?_) (fun c_1 => ?_)
  · rw [if_pos c_1] at hR
    refine lv_aload_n hx hb dX2_startLine_8 rfl (lv_at hl 0 rfl) ?_
    refine va_get (D := (dC, dI)) (ci := 2) (v := .int li) (C := RX2) (T := TX2) (N := 11) hx hb hts inc_X2_startLine_2 hown hG.1 hP 0 rfl rfl 8 (by decide) (hts (.fieldLink RX2 86 "MappingDesk$Reader" "line" "I") (by decide +kernel)) (fun _ h9 => h9) rfl dX2_startLine_9 ?_
    refine lv_sipush (v := 199) hx hb dX2_startLine_12 (by decide) ?_
    refine lv_icmp_lt (tgt := 25) hx hb dX2_startLine_15 (by decide) (fun c_2 => ?_) (fun c_2 => ?_)
    · rw [if_pos c_2] at hR
      refine lv_aload_n hx hb dX2_startLine_25 rfl (lv_at hl 0 rfl) ?_
      refine lv_dup hx hb dX2_startLine_26 rfl ?_
      refine va_get (D := (dC, dI)) (ci := 2) (v := .int li) (C := RX2) (T := TX2) (N := 11) hx hb hts inc_X2_startLine_2 hown hG.1 hP 0 rfl rfl 8 (by decide) (hts (.fieldLink RX2 86 "MappingDesk$Reader" "line" "I") (by decide +kernel)) (fun _ h9 => h9) rfl dX2_startLine_27 ?_
      refine lv_iconst (v := 1) hx hb dX2_startLine_30 (by decide) ?_
      refine lv_iadd hx hb dX2_startLine_31 ?_
      refine va_put (D := (dC, dI)) (ci := 2) (v := .int (li + 1)) (ty := .int) (C := RX2) (T := TX2) (N := 11) hx hb hts inc_X2_startLine_2 tyX2 tyX2_ok nmX2 hown hG.1 hP hD hS 0 rfl rfl 8 (by decide) (hts (.fieldLink RX2 86 "MappingDesk$Reader" "line" "I") (by decide +kernel)) (fun _ h9 => h9) rfl (by decide +kernel) rfl rfl (Nat.le_of_ble_eq_true rfl) dX2_startLine_32 (fun H locs hP hD hS => ?_)
      have hP : va_P (dC, dI) vwCl [(h0, .inr (2, [.ref r0, .ref r1, .ref r2, .ref r3, .ref r4, .int nc, .int ss, .int ib, .int (li + 1), .int ff, .int fp])), (r2, .inr (0, [.int a0, .int a1, .int a2, .int a3, .int a4]))] H := hP
      have hD : va_D A [(h0, .inr (2, [.ref r0, .ref r1, .ref r2, .ref r3, .ref r4, .int nc, .int ss, .int ib, .int (li + 1), .int ff, .int fp])), (r2, .inr (0, [.int a0, .int a1, .int a2, .int a3, .int a4]))] := hD
      refine lv_aload_n hx hb dX2_startLine_35 rfl (lv_at hl 0 rfl) ?_
      refine va_get (D := (dC, dI)) (ci := 2) (v := .ref r2) (C := RX2) (T := TX2) (N := 11) hx hb hts inc_X2_startLine_2 hown hG.1 hP 0 rfl rfl 2 (by decide) (hts (.fieldLink RX2 25 "MappingDesk$Reader" "ahead" "LMappingDesk$Ahead;") (by decide +kernel)) (fun _ h9 => h9) rfl dX2_startLine_36 ?_
      have hPc := hP.sub (ws' := [(r2, .inr (0, [.int a0, .int a1, .int a2, .int a3, .int a4]))]) [1] rfl
      have hDc := hD.sub (ws' := [(r2, .inr (0, [.int a0, .int a1, .int a2, .int a3, .int a4]))]) [1] (by decide) rfl
      have hFc := va_free (wc := [(r2, .inr (0, [.int a0, .int a1, .int a2, .int a3, .int a4]))]) hD hS hA [1] rfl
      refine va_callv (va_runVN (C := RX0) (As := []) (rest := []) ⟨hx, hb, hml, hown, hts⟩ (c_X0_startLine l dC dI cB cC cI cJ H.size r2 a0 a1 a2 a3 a4 ) ⟨va_cnB 0 hts gX2_startLine_X0_startLine_n127 rfl rfl rfl (hG.nm (A := #[]) (w := .methodLinkNest RX2 127 yX0_startLine "MappingDesk") (by decide +kernel)) (hts (.initialized RX0) (by decide +kernel)) (by decide +kernel) ⟨(Nat.le_of_ble_eq_true rfl), (Nat.le_of_ble_eq_true rfl)⟩, hts (.instanceMethod yX0_startLine) (by decide +kernel), hts (.selects RX0 yX0_startLine yX0_startLine) (by decide +kernel)⟩ ⟨cP_blind, va_recv hG.1 hPc (ci := 0) (q0 := 0) rfl rfl, cP_pre hPc hG hDc⟩ rfl rfl hl.1 rfl (lv_room (Nat.le_of_ble_eq_true rfl)) dX2_startLine_39 ⟨Nat.le_of_ble_eq_true rfl, Nat.le_of_ble_eq_true rfl⟩) hS (fun q _ h => hFc q h) hFc (fun u t H1 locs ht hvm hw hB hz1 hk1 hS => ?_)
      obtain ⟨hP1, hD1⟩ := hB
      rw [ht] at hP1
      generalize hr_3 : fX0_startLine a0 a1 a2 a3 a4 = r_3 at hP1 hD1
      rw [bnd_eq hr_3] at hR
      obtain ⟨hP, hD⟩ := va_join (wr := [(h0, .inr (2, [.ref r0, .ref r1, .ref r2, .ref r3, .ref r4, .int nc, .int ss, .int ib, .int (li + 1), .int ff, .int fp]))]) (w1 := [(r2, .inr (0, [.int r_3, .int a1, .int a2, .int a3, .int a4]))]) hP hD [1] [0] rfl rfl (by decide) (by decide) hk1 hFc hP1 hD1
      generalize H1 = H at hP hS ⊢
      have hP := hP.sub (ws' := [(h0, .inr (2, [.ref r0, .ref r1, .ref r2, .ref r3, .ref r4, .int nc, .int ss, .int ib, .int (li + 1), .int ff, .int fp])), (r2, .inr (0, [.int r_3, .int a1, .int a2, .int a3, .int a4]))]) [0, 1] rfl
      have hD := hD.sub (ws' := [(h0, .inr (2, [.ref r0, .ref r1, .ref r2, .ref r3, .ref r4, .int nc, .int ss, .int ib, .int (li + 1), .int ff, .int fp])), (r2, .inr (0, [.int r_3, .int a1, .int a2, .int a3, .int a4]))]) [0, 1] (by decide) rfl
      subst hR
      exact W.vret hx hb hr (fun t ht hW => ⟨⟨(), rfl, trivial, by rw [ht]; exact hP, hD⟩, hS.F ht⟩) hS.2.2 dX2_startLine_42
    · rw [if_neg c_2] at hR
      refine lv_aload_n hx hb dX2_startLine_18 rfl (lv_at hl 0 rfl) ?_
      refine lv_iconst (v := 5) hx hb dX2_startLine_19 (by decide) ?_
      refine lv_iload_n hx hb dX2_startLine_20 rfl (lv_at hl 1 rfl) ?_
      have hPc := hP.sub (ws' := [(h0, .inr (2, [.ref r0, .ref r1, .ref r2, .ref r3, .ref r4, .int nc, .int ss, .int ib, .int li, .int ff, .int fp]))]) [0] rfl
      have hDc := hD.sub (ws' := [(h0, .inr (2, [.ref r0, .ref r1, .ref r2, .ref r3, .ref r4, .int nc, .int ss, .int ib, .int li, .int ff, .int fp]))]) [0] (by decide) rfl
      have hFc := va_free (wc := [(h0, .inr (2, [.ref r0, .ref r1, .ref r2, .ref r3, .ref r4, .int nc, .int ss, .int ib, .int li, .int ff, .int fp]))]) hD hS hA [0] rfl
      refine va_callv (va_runV (As := [.int 5, .int x]) (rest := []) ⟨hx, hb, hml, hown, hts⟩ (c_X2_refuse l dC dI cB cC cI cJ H.size h0 r0 r1 r2 r3 r4 nc ss ib li ff fp 5 x ) (cwV 2 hts gX2_startLine_X2_refuse rfl rfl rfl (by decide +kernel) ⟨(Nat.le_of_ble_eq_true rfl), (Nat.le_of_ble_eq_true rfl)⟩) ⟨cP_blind, va_recv hG.1 hPc (ci := 2) (q0 := 0) rfl rfl, cP_pre hPc hG hDc⟩ rfl rfl hl.1 rfl (lv_room (Nat.le_of_ble_eq_true rfl)) dX2_startLine_21 ⟨Nat.le_of_ble_eq_true rfl, Nat.le_of_ble_eq_true rfl⟩) hS (fun q _ h => hFc q h) hFc (fun u t H1 locs ht hvm hw hB hz1 hk1 hS => ?_)
      obtain ⟨hP1, hD1⟩ := hB
      rw [ht] at hP1
      generalize hr_4 : fX2_refuse nc ss ib li ff fp 5 x = r_4 at hP1 hD1
      rw [bnd_eq hr_4] at hR
      obtain ⟨hP, hD⟩ := va_join (wr := [(r2, .inr (0, [.int a0, .int a1, .int a2, .int a3, .int a4]))]) (w1 := [(h0, .inr (2, [.ref r0, .ref r1, .ref r2, .ref r3, .ref r4, .int nc, .int ss, .int ib, .int li, .int r_4.1, .int r_4.2]))]) hP hD [0] [1] rfl rfl (by decide) (by decide) hk1 hFc hP1 hD1
      generalize H1 = H at hP hS ⊢
      have hP := hP.sub (ws' := [(h0, .inr (2, [.ref r0, .ref r1, .ref r2, .ref r3, .ref r4, .int nc, .int ss, .int ib, .int li, .int r_4.1, .int r_4.2])), (r2, .inr (0, [.int a0, .int a1, .int a2, .int a3, .int a4]))]) [1, 0] rfl
      have hD := hD.sub (ws' := [(h0, .inr (2, [.ref r0, .ref r1, .ref r2, .ref r3, .ref r4, .int nc, .int ss, .int ib, .int li, .int r_4.1, .int r_4.2])), (r2, .inr (0, [.int a0, .int a1, .int a2, .int a3, .int a4]))]) [1, 0] (by decide) rfl
      subst hR
      exact W.vret hx hb hr (fun t ht hW => ⟨⟨(), rfl, trivial, by rw [ht]; exact hP, hD⟩, hS.F ht⟩) hS.2.2 dX2_startLine_24
  · rw [if_neg c_1] at hR
    subst hR
    exact W.vret hx hb hr (fun t ht hW => ⟨⟨(), rfl, trivial, by rw [ht]; exact hP, hD⟩, hS.F ht⟩) hS.2.2 dX2_startLine_7

def fX2_takeDigit (nc ss ib li ff fp : Int32) (n0 n1 : Int32) (n2 : Int64) (n3 n4 : Int32) (nb : Nat → Int64) (x y : Int32) : Int32 × Int32 × Int32 × Int32 × Int32 × Int32 × Int64 × Int32 × Int32 × (Nat → Int64) :=
  if nc = 0 then
    if n0 = 0 then
      bnd (fX1_take n0 n1 n2 n3 n4 x y) fun r_94 =>
      if r_94.1 = 0 then
        bnd (fX1_isTooLarge r_94.1 r_94.2.1 r_94.2.2.1 r_94.2.2.2.1 r_94.2.2.2.2) fun r_96 =>
        if r_96 = 0 then
          if 5 ≤ nc then
            ((nc + 1), y, ff, fp, r_94.1, r_94.2.1, r_94.2.2.1, r_94.2.2.2.1, r_94.2.2.2.2, nb)
          else
            bnd (fX1_value r_94.1 r_94.2.1 r_94.2.2.1 r_94.2.2.2.1 r_94.2.2.2.2) fun r_109 =>
            ((nc + 1), y, ff, fp, r_94.1, r_94.2.1, r_94.2.2.1, r_94.2.2.2.1, r_94.2.2.2.2, (vp_updL nb nc.toNatClampNeg r_109))
        else
          bnd (fX2_refuse nc y ib li ff fp 2 r_94.2.1) fun r_130 =>
          (nc, y, r_130.1, r_130.2, r_94.1, r_94.2.1, r_94.2.2.1, r_94.2.2.2.1, r_94.2.2.2.2, nb)
      else
        (nc, y, ff, fp, r_94.1, r_94.2.1, r_94.2.2.1, r_94.2.2.2.1, r_94.2.2.2.2, nb)
    else
      bnd (fX1_take n0 n1 n2 n3 n4 x y) fun r_46 =>
      if r_46.1 = 0 then
        bnd (fX1_isTooLarge r_46.1 r_46.2.1 r_46.2.2.1 r_46.2.2.2.1 r_46.2.2.2.2) fun r_48 =>
        if r_48 = 0 then
          if 5 ≤ nc then
            ((nc + 1), ss, ff, fp, r_46.1, r_46.2.1, r_46.2.2.1, r_46.2.2.2.1, r_46.2.2.2.2, nb)
          else
            bnd (fX1_value r_46.1 r_46.2.1 r_46.2.2.1 r_46.2.2.2.1 r_46.2.2.2.2) fun r_61 =>
            ((nc + 1), ss, ff, fp, r_46.1, r_46.2.1, r_46.2.2.1, r_46.2.2.2.1, r_46.2.2.2.2, (vp_updL nb nc.toNatClampNeg r_61))
        else
          bnd (fX2_refuse nc ss ib li ff fp 2 r_46.2.1) fun r_82 =>
          (nc, ss, r_82.1, r_82.2, r_46.1, r_46.2.1, r_46.2.2.1, r_46.2.2.2.1, r_46.2.2.2.2, nb)
      else
        (nc, ss, ff, fp, r_46.1, r_46.2.1, r_46.2.2.1, r_46.2.2.2.1, r_46.2.2.2.2, nb)
  else
    bnd (fX1_take n0 n1 n2 n3 n4 x y) fun r_2 =>
    if r_2.1 = 0 then
      bnd (fX1_isTooLarge r_2.1 r_2.2.1 r_2.2.2.1 r_2.2.2.2.1 r_2.2.2.2.2) fun r_4 =>
      if r_4 = 0 then
        if 5 ≤ nc then
          ((nc + 1), ss, ff, fp, r_2.1, r_2.2.1, r_2.2.2.1, r_2.2.2.2.1, r_2.2.2.2.2, nb)
        else
          bnd (fX1_value r_2.1 r_2.2.1 r_2.2.2.1 r_2.2.2.2.1 r_2.2.2.2.2) fun r_16 =>
          ((nc + 1), ss, ff, fp, r_2.1, r_2.2.1, r_2.2.2.1, r_2.2.2.2.1, r_2.2.2.2.2, (vp_updL nb nc.toNatClampNeg r_16))
      else
        bnd (fX2_refuse nc ss ib li ff fp 2 r_2.2.1) fun r_35 =>
        (nc, ss, r_35.1, r_35.2, r_2.1, r_2.2.1, r_2.2.2.1, r_2.2.2.2.1, r_2.2.2.2.2, nb)
    else
      (nc, ss, ff, fp, r_2.1, r_2.2.1, r_2.2.2.1, r_2.2.2.2.1, r_2.2.2.2.2, nb)
theorem inc_X2_takeDigit_2 : ∀ w ∈ u_ws RX2 TX2 11, w ∈ wsX2_takeDigit := by decide +kernel
theorem inc_X2_takeDigit_1 : ∀ w ∈ u_ws RX1 TX1 5, w ∈ wsX2_takeDigit := by decide +kernel
set_option maxHeartbeats 4000000 in
set_option maxRecDepth 100000 in
theorem c_X2_takeDigit (l : Launch) (dC : Nat → ClassId) (dI : Nat → Nat → Nat) (cB cC cI cJ : ClassId) (sz : Nat) (h0 r0 r1 r2 r3 r4 : Nat) (nc ss ib li ff fp : Int32) (n0 n1 : Int32) (n2 : Int64) (n3 n4 : Int32) (nb : Nat → Int64) (x y : Int32) (hc0 : 0 ≤ nc.toInt) (hc1 : nc.toInt ≤ 3000) : Met l yX2_takeDigit wsX2_takeDigit ({ frames := 1, cells := 0, slots := 0, locals := 23 } : Room) (cP dC dI cB cC cI cJ [.ref h0, .int x, .int y] sz [(h0, .inr (2, [.ref r0, .ref r1, .ref r2, .ref r3, .ref r4, .int nc, .int ss, .int ib, .int li, .int ff, .int fp])), (r0, .inr (1, [.int n0, .int n1, .long n2, .int n3, .int n4])), (r1, .inl (cJ, 5, .inr (.inl nb)))]) (va_Qv (fun _ => (0 ≤ (fX2_takeDigit nc ss ib li ff fp n0 n1 n2 n3 n4 nb x y).1.toInt ∧ (fX2_takeDigit nc ss ib li ff fp n0 n1 n2 n3 n4 nb x y).1.toInt ≤ nc.toInt + 1)) (cE dC dI (va_A [(h0, .inr (2, [.ref r0, .ref r1, .ref r2, .ref r3, .ref r4, .int nc, .int ss, .int ib, .int li, .int ff, .int fp])), (r0, .inr (1, [.int n0, .int n1, .long n2, .int n3, .int n4])), (r1, .inl (cJ, 5, .inr (.inl nb)))] sz) [(h0, .inr (2, [.ref r0, .ref r1, .ref r2, .ref r3, .ref r4, .int (fX2_takeDigit nc ss ib li ff fp n0 n1 n2 n3 n4 nb x y).1, .int (fX2_takeDigit nc ss ib li ff fp n0 n1 n2 n3 n4 nb x y).2.1, .int ib, .int li, .int (fX2_takeDigit nc ss ib li ff fp n0 n1 n2 n3 n4 nb x y).2.2.1, .int (fX2_takeDigit nc ss ib li ff fp n0 n1 n2 n3 n4 nb x y).2.2.2.1])), (r0, .inr (1, [.int (fX2_takeDigit nc ss ib li ff fp n0 n1 n2 n3 n4 nb x y).2.2.2.2.1, .int (fX2_takeDigit nc ss ib li ff fp n0 n1 n2 n3 n4 nb x y).2.2.2.2.2.1, .long (fX2_takeDigit nc ss ib li ff fp n0 n1 n2 n3 n4 nb x y).2.2.2.2.2.2.1, .int (fX2_takeDigit nc ss ib li ff fp n0 n1 n2 n3 n4 nb x y).2.2.2.2.2.2.2.1, .int (fX2_takeDigit nc ss ib li ff fp n0 n1 n2 n3 n4 nb x y).2.2.2.2.2.2.2.2.1])), (r1, .inl (cJ, 5, .inr (.inl (fX2_takeDigit nc ss ib li ff fp n0 n1 n2 n3 n4 nb x y).2.2.2.2.2.2.2.2.2)))]) (va_A [(h0, .inr (2, [.ref r0, .ref r1, .ref r2, .ref r3, .ref r4, .int nc, .int ss, .int ib, .int li, .int ff, .int fp])), (r0, .inr (1, [.int n0, .int n1, .long n2, .int n3, .int n4])), (r1, .inl (cJ, 5, .inr (.inl nb)))] sz)) 0 0 (va_A [(h0, .inr (2, [.ref r0, .ref r1, .ref r2, .ref r3, .ref r4, .int nc, .int ss, .int ib, .int li, .int ff, .int fp])), (r0, .inr (1, [.int n0, .int n1, .long n2, .int n3, .int n4])), (r1, .inl (cJ, 5, .inr (.inl nb)))] sz) := by
  refine Met.ofW (cc := cX2_takeDigit) (maxL := 3) (ret := none) (by decide) rfl ?_
  intro p e s m args below meth c s₁ B hml hv
  obtain ⟨rfl, hsz, hP, hG, hD0⟩ := hv
  have hx := B.exec
  have hb := B.bytes
  have hr := B.returns
  have hts := atoms_spec (ws := wsX2_takeDigit) B.pre
  have hown : s.vm.findClass RX2 = some m.cls := findClass_of_methodNamed B.named
  have hlocks := B.notSynchronized
  subst hsz
  have hD := hD0.self (sz := s.heap.size)
  generalize hAe : va_A [(h0, .inr (2, [.ref r0, .ref r1, .ref r2, .ref r3, .ref r4, .int nc, .int ss, .int ib, .int li, .int ff, .int fp])), (r0, .inr (1, [.int n0, .int n1, .long n2, .int n3, .int n4])), (r1, .inl (cJ, 5, .inr (.inl nb)))] s.heap.size = A at hD ⊢
  have hA : ∀ q : Nat, s.heap.size ≤ q → A q := fun q h => by rw [← hAe]; exact Or.inr h
  obtain ⟨H, hH⟩ : ∃ H : Heap, H = s.heap := ⟨_, rfl⟩
  have hS : va_S A s.heap H [] := by rw [hH]; exact va_S.rf
  rw [← hH] at hP ⊢
  generalize hR : fX2_takeDigit nc ss ib li ff fp n0 n1 n2 n3 n4 nb x y = R
  unfold fX2_takeDigit at hR
  have hl := lv_entry ([.ref h0, .int x, .int y]) (n := 3) (Nat.le_of_ble_eq_true rfl)
  rw [lg_entry_eq]
  generalize (lg_sl ([.ref h0, .int x, .int y]) ++ List.replicate (3 - (lg_sl ([.ref h0, .int x, .int y])).length) Slot.unset).toArray = ls at hl ⊢
  have hl : lv_has ls 3 [(0, .ref h0), (1, .int x), (2, .int y)] := hl
  refine lv_aload_n hx hb dX2_takeDigit_0 rfl (lv_at hl 0 rfl) ?_
  refine va_get (D := (dC, dI)) (ci := 2) (v := .int nc) (C := RX2) (T := TX2) (N := 11) hx hb hts inc_X2_takeDigit_2 hown hG.1 hP 0 rfl rfl 5 (by decide) (hts (.fieldLink RX2 76 "MappingDesk$Reader" "numberCount" "I") (by decide +kernel)) (fun _ h9 => h9) rfl dX2_takeDigit_1 ?_
  refine lv_if_ne (tgt := 22) hx hb dX2_takeDigit_4 (by decide) (fun c_1 => ?_) (fun c_1 => ?_)
  · rw [if_neg c_1] at hR
    refine lv_aload_n hx hb dX2_takeDigit_22 rfl (lv_at hl 0 rfl) ?_
    refine va_get (D := (dC, dI)) (ci := 2) (v := .ref r0) (C := RX2) (T := TX2) (N := 11) hx hb hts inc_X2_takeDigit_2 hown hG.1 hP 0 rfl rfl 0 (by decide) (hts (.fieldLink RX2 12 "MappingDesk$Reader" "number" "LMappingDesk$NumberTaker;") (by decide +kernel)) (fun _ h9 => h9) rfl dX2_takeDigit_23 ?_
    refine lv_iload_n hx hb dX2_takeDigit_26 rfl (lv_at hl 1 rfl) ?_
    refine lv_iload_n hx hb dX2_takeDigit_27 rfl (lv_at hl 2 rfl) ?_
    have hPc := hP.sub (ws' := [(r0, .inr (1, [.int n0, .int n1, .long n2, .int n3, .int n4]))]) [1] rfl
    have hDc := hD.sub (ws' := [(r0, .inr (1, [.int n0, .int n1, .long n2, .int n3, .int n4]))]) [1] (by decide) rfl
    have hFc := va_free (wc := [(r0, .inr (1, [.int n0, .int n1, .long n2, .int n3, .int n4]))]) hD hS hA [1] rfl
    refine va_callv (va_runVN (C := RX1) (As := [.int x, .int y]) (rest := []) ⟨hx, hb, hml, hown, hts⟩ (c_X1_take l dC dI cB cC cI cJ H.size r0 n0 n1 n2 n3 n4 x y ) ⟨va_cnB 2 hts gX2_takeDigit_X1_take_n114 rfl rfl rfl (hG.nm (A := #[]) (w := .methodLinkNest RX2 114 yX1_take "MappingDesk") (by decide +kernel)) (hts (.initialized RX1) (by decide +kernel)) (by decide +kernel) ⟨(Nat.le_of_ble_eq_true rfl), (Nat.le_of_ble_eq_true rfl)⟩, hts (.instanceMethod yX1_take) (by decide +kernel), hts (.selects RX1 yX1_take yX1_take) (by decide +kernel)⟩ ⟨cP_blind, va_recv hG.1 hPc (ci := 1) (q0 := 0) rfl rfl, cP_pre hPc hG hDc⟩ rfl rfl hl.1 rfl (lv_room (Nat.le_of_ble_eq_true rfl)) dX2_takeDigit_28 ⟨Nat.le_of_ble_eq_true rfl, Nat.le_of_ble_eq_true rfl⟩) hS (fun q _ h => hFc q h) hFc (fun u t H1 locs ht hvm hw hB hz1 hk1 hS => ?_)
    obtain ⟨hP1, hD1⟩ := hB
    rw [ht] at hP1
    generalize hr_2 : fX1_take n0 n1 n2 n3 n4 x y = r_2 at hP1 hD1
    rw [bnd_eq hr_2] at hR
    obtain ⟨hP, hD⟩ := va_join (wr := [(h0, .inr (2, [.ref r0, .ref r1, .ref r2, .ref r3, .ref r4, .int nc, .int ss, .int ib, .int li, .int ff, .int fp])), (r1, .inl (cJ, 5, .inr (.inl nb)))]) (w1 := [(r0, .inr (1, [.int r_2.1, .int r_2.2.1, .long r_2.2.2.1, .int r_2.2.2.2.1, .int r_2.2.2.2.2]))]) hP hD [1] [0, 2] rfl rfl (by decide) (by decide) hk1 hFc hP1 hD1
    generalize H1 = H at hP hS ⊢
    have hP := hP.sub (ws' := [(h0, .inr (2, [.ref r0, .ref r1, .ref r2, .ref r3, .ref r4, .int nc, .int ss, .int ib, .int li, .int ff, .int fp])), (r0, .inr (1, [.int r_2.1, .int r_2.2.1, .long r_2.2.2.1, .int r_2.2.2.2.1, .int r_2.2.2.2.2])), (r1, .inl (cJ, 5, .inr (.inl nb)))]) [0, 2, 1] rfl
    have hD := hD.sub (ws' := [(h0, .inr (2, [.ref r0, .ref r1, .ref r2, .ref r3, .ref r4, .int nc, .int ss, .int ib, .int li, .int ff, .int fp])), (r0, .inr (1, [.int r_2.1, .int r_2.2.1, .long r_2.2.2.1, .int r_2.2.2.2.1, .int r_2.2.2.2.2])), (r1, .inl (cJ, 5, .inr (.inl nb)))]) [0, 2, 1] (by decide) rfl
    refine lv_aload_n hx hb dX2_takeDigit_31 rfl (lv_at hl 0 rfl) ?_
    refine va_get (D := (dC, dI)) (ci := 2) (v := .ref r0) (C := RX2) (T := TX2) (N := 11) hx hb hts inc_X2_takeDigit_2 hown hG.1 hP 0 rfl rfl 0 (by decide) (hts (.fieldLink RX2 12 "MappingDesk$Reader" "number" "LMappingDesk$NumberTaker;") (by decide +kernel)) (fun _ h9 => h9) rfl dX2_takeDigit_32 ?_
    refine va_getN (D := (dC, dI)) (ci := 1) (v := .int r_2.1) (C := RX1) (T := TX1) (N := 5) hx hb hts inc_X2_takeDigit_1 hown hG.1 hP 1 rfl rfl 0 (by decide) (hG.nf (a := RX2) (i := 111) (b := "MappingDesk$NumberTaker") (n := "isOpen") (d := "Z") (t := "MappingDesk") (by decide +kernel)) (fun _ h9 => h9) rfl dX2_takeDigit_35 ?_
    refine lv_if_eq (tgt := 42) hx hb dX2_takeDigit_38 (by decide) (fun c_3 => ?_) (fun c_3 => ?_)
    · rw [if_pos c_3] at hR
      refine lv_aload_n hx hb dX2_takeDigit_42 rfl (lv_at hl 0 rfl) ?_
      refine va_get (D := (dC, dI)) (ci := 2) (v := .ref r0) (C := RX2) (T := TX2) (N := 11) hx hb hts inc_X2_takeDigit_2 hown hG.1 hP 0 rfl rfl 0 (by decide) (hts (.fieldLink RX2 12 "MappingDesk$Reader" "number" "LMappingDesk$NumberTaker;") (by decide +kernel)) (fun _ h9 => h9) rfl dX2_takeDigit_43 ?_
      have hPc := hP.sub (ws' := [(r0, .inr (1, [.int r_2.1, .int r_2.2.1, .long r_2.2.2.1, .int r_2.2.2.2.1, .int r_2.2.2.2.2]))]) [1] rfl
      have hDc := hD.sub (ws' := [(r0, .inr (1, [.int r_2.1, .int r_2.2.1, .long r_2.2.2.1, .int r_2.2.2.2.1, .int r_2.2.2.2.2]))]) [1] (by decide) rfl
      refine vp_callSi (va_Run.run (va_runVN (C := RX1) (As := []) (rest := []) ⟨hx, hb, hml, hown, hts⟩ (c_X1_isTooLarge l dC dI cB cC cI cJ H.size r0 r_2.1 r_2.2.1 r_2.2.2.1 r_2.2.2.2.1 r_2.2.2.2.2 ) ⟨va_cnB 0 hts gX2_takeDigit_X1_isTooLarge_n117 rfl rfl rfl (hG.nm (A := #[]) (w := .methodLinkNest RX2 117 yX1_isTooLarge "MappingDesk") (by decide +kernel)) (hts (.initialized RX1) (by decide +kernel)) (by decide +kernel) ⟨(Nat.le_of_ble_eq_true rfl), (Nat.le_of_ble_eq_true rfl)⟩, hts (.instanceMethod yX1_isTooLarge) (by decide +kernel), hts (.selects RX1 yX1_isTooLarge yX1_isTooLarge) (by decide +kernel)⟩ ⟨cP_blind, va_recv hG.1 hPc (ci := 1) (q0 := 0) rfl rfl, cP_pre hPc hG hDc⟩ rfl rfl hl.1 rfl (lv_room (Nat.le_of_ble_eq_true rfl)) dX2_takeDigit_46 ⟨Nat.le_of_ble_eq_true rfl, Nat.le_of_ble_eq_true rfl⟩)) (fun r_4 hr_4 => ?_)
      rw [bnd_eq hr_4.symm] at hR
      refine lv_if_eq (tgt := 65) hx hb dX2_takeDigit_49 (by decide) (fun c_5 => ?_) (fun c_5 => ?_)
      · rw [if_pos c_5] at hR
        refine lv_aload_n hx hb dX2_takeDigit_65 rfl (lv_at hl 0 rfl) ?_
        refine va_get (D := (dC, dI)) (ci := 2) (v := .int nc) (C := RX2) (T := TX2) (N := 11) hx hb hts inc_X2_takeDigit_2 hown hG.1 hP 0 rfl rfl 5 (by decide) (hts (.fieldLink RX2 76 "MappingDesk$Reader" "numberCount" "I") (by decide +kernel)) (fun _ h9 => h9) rfl dX2_takeDigit_66 ?_
        refine lv_iconst (v := 5) hx hb dX2_takeDigit_69 (by decide) ?_
        refine lv_icmp_ge (tgt := 89) hx hb dX2_takeDigit_70 (by decide) (fun c_6 => ?_) (fun c_6 => ?_)
        · rw [if_pos c_6] at hR
          refine lv_aload_n hx hb dX2_takeDigit_89 rfl (lv_at hl 0 rfl) ?_
          refine lv_dup hx hb dX2_takeDigit_90 rfl ?_
          refine va_get (D := (dC, dI)) (ci := 2) (v := .int nc) (C := RX2) (T := TX2) (N := 11) hx hb hts inc_X2_takeDigit_2 hown hG.1 hP 0 rfl rfl 5 (by decide) (hts (.fieldLink RX2 76 "MappingDesk$Reader" "numberCount" "I") (by decide +kernel)) (fun _ h9 => h9) rfl dX2_takeDigit_91 ?_
          refine lv_iconst (v := 1) hx hb dX2_takeDigit_94 (by decide) ?_
          refine lv_iadd hx hb dX2_takeDigit_95 ?_
          refine va_put (D := (dC, dI)) (ci := 2) (v := .int (nc + 1)) (ty := .int) (C := RX2) (T := TX2) (N := 11) hx hb hts inc_X2_takeDigit_2 tyX2 tyX2_ok nmX2 hown hG.1 hP hD hS 0 rfl rfl 5 (by decide) (hts (.fieldLink RX2 76 "MappingDesk$Reader" "numberCount" "I") (by decide +kernel)) (fun _ h9 => h9) rfl (by decide +kernel) rfl rfl (Nat.le_of_ble_eq_true rfl) dX2_takeDigit_96 (fun H locs hP hD hS => ?_)
          have hP : va_P (dC, dI) vwCl [(h0, .inr (2, [.ref r0, .ref r1, .ref r2, .ref r3, .ref r4, .int (nc + 1), .int ss, .int ib, .int li, .int ff, .int fp])), (r0, .inr (1, [.int r_2.1, .int r_2.2.1, .long r_2.2.2.1, .int r_2.2.2.2.1, .int r_2.2.2.2.2])), (r1, .inl (cJ, 5, .inr (.inl nb)))] H := hP
          have hD : va_D A [(h0, .inr (2, [.ref r0, .ref r1, .ref r2, .ref r3, .ref r4, .int (nc + 1), .int ss, .int ib, .int li, .int ff, .int fp])), (r0, .inr (1, [.int r_2.1, .int r_2.2.1, .long r_2.2.2.1, .int r_2.2.2.2.1, .int r_2.2.2.2.2])), (r1, .inl (cJ, 5, .inr (.inl nb)))] := hD
          have e_7 : 0 ≤ ((nc + 1) : Int32).toInt ∧ ((nc + 1) : Int32).toInt ≤ nc.toInt + 1 := by
            have k_8 : (0 : Int32).toInt = 0 := by decide
            have q_9 := i_ne c_1
            have q_10 := i_eq c_3
            have q_11 := i_eq c_5
            have k_12 : (5 : Int32).toInt = 5 := by decide
            have q_13 := i_le c_6
            have k_14 : (1 : Int32).toInt = 1 := by decide
            have t_15 := ti_add (a := nc) (b := 1) (by omega) (by omega)
            try generalize Int32.toInt (nc + 1) = z0 at *
            try generalize Int32.toInt r_2.1 = z1 at *
            try generalize Int32.toInt r_4 = z2 at *
            try generalize Int32.toInt nc = z3 at *
            try generalize Int32.toInt (0 : Int32) = z4 at *
            try generalize Int32.toInt (1 : Int32) = z5 at *
            try generalize Int32.toInt (5 : Int32) = z6 at *
            omega
          subst hR
          exact W.vret hx hb hr (fun t ht hW => ⟨⟨(), rfl, e_7, by rw [ht]; exact hP, hD⟩, hS.F ht⟩) hS.2.2 dX2_takeDigit_99
        · rw [if_neg c_6] at hR
          refine lv_aload_n hx hb dX2_takeDigit_73 rfl (lv_at hl 0 rfl) ?_
          refine va_get (D := (dC, dI)) (ci := 2) (v := .ref r1) (C := RX2) (T := TX2) (N := 11) hx hb hts inc_X2_takeDigit_2 hown hG.1 hP 0 rfl rfl 1 (by decide) (hts (.fieldLink RX2 18 "MappingDesk$Reader" "numbers" "[J") (by decide +kernel)) (fun _ h9 => h9) rfl dX2_takeDigit_74 ?_
          refine lv_aload_n hx hb dX2_takeDigit_77 rfl (lv_at hl 0 rfl) ?_
          refine va_get (D := (dC, dI)) (ci := 2) (v := .int nc) (C := RX2) (T := TX2) (N := 11) hx hb hts inc_X2_takeDigit_2 hown hG.1 hP 0 rfl rfl 5 (by decide) (hts (.fieldLink RX2 76 "MappingDesk$Reader" "numberCount" "I") (by decide +kernel)) (fun _ h9 => h9) rfl dX2_takeDigit_78 ?_
          refine lv_aload_n hx hb dX2_takeDigit_81 rfl (lv_at hl 0 rfl) ?_
          refine va_get (D := (dC, dI)) (ci := 2) (v := .ref r0) (C := RX2) (T := TX2) (N := 11) hx hb hts inc_X2_takeDigit_2 hown hG.1 hP 0 rfl rfl 0 (by decide) (hts (.fieldLink RX2 12 "MappingDesk$Reader" "number" "LMappingDesk$NumberTaker;") (by decide +kernel)) (fun _ h9 => h9) rfl dX2_takeDigit_82 ?_
          have hPc := hP.sub (ws' := [(r0, .inr (1, [.int r_2.1, .int r_2.2.1, .long r_2.2.2.1, .int r_2.2.2.2.1, .int r_2.2.2.2.2]))]) [1] rfl
          have hDc := hD.sub (ws' := [(r0, .inr (1, [.int r_2.1, .int r_2.2.1, .long r_2.2.2.1, .int r_2.2.2.2.1, .int r_2.2.2.2.2]))]) [1] (by decide) rfl
          refine vp_callSl (va_Run.run (va_runVN (C := RX1) (As := []) (rest := [.int nc, .ref r1]) ⟨hx, hb, hml, hown, hts⟩ (c_X1_value l dC dI cB cC cI cJ H.size r0 r_2.1 r_2.2.1 r_2.2.2.1 r_2.2.2.2.1 r_2.2.2.2.2 ) ⟨va_cnB 0 hts gX2_takeDigit_X1_value_n123 rfl rfl rfl (hG.nm (A := #[]) (w := .methodLinkNest RX2 123 yX1_value "MappingDesk") (by decide +kernel)) (hts (.initialized RX1) (by decide +kernel)) (by decide +kernel) ⟨(Nat.le_of_ble_eq_true rfl), (Nat.le_of_ble_eq_true rfl)⟩, hts (.instanceMethod yX1_value) (by decide +kernel), hts (.selects RX1 yX1_value yX1_value) (by decide +kernel)⟩ ⟨cP_blind, va_recv hG.1 hPc (ci := 1) (q0 := 0) rfl rfl, cP_pre hPc hG hDc⟩ rfl rfl hl.1 rfl (lv_room (Nat.le_of_ble_eq_true rfl)) dX2_takeDigit_85 ⟨Nat.le_of_ble_eq_true rfl, Nat.le_of_ble_eq_true rfl⟩)) (fun r_16 hr_16 => ?_)
          rw [bnd_eq hr_16.symm] at hR
          have b_17 : vp_in nc 5 := by
            have k_18 : (0 : Int32).toInt = 0 := by decide
            have q_19 := i_ne c_1
            have q_20 := i_eq c_3
            have q_21 := i_eq c_5
            have k_22 : (5 : Int32).toInt = 5 := by decide
            have q_23 := i_nle c_6
            refine vin ?_ ?_
            all_goals (try generalize Int32.toInt r_2.1 = z0 at *; try generalize Int32.toInt r_4 = z1 at *; try generalize Int32.toInt nc = z2 at *; try generalize Int32.toInt (0 : Int32) = z3 at *; try generalize Int32.toInt (5 : Int32) = z4 at *; omega)
          refine va_last hx hb hG.1 hP hD hS 2 3 rfl rfl b_17 dX2_takeDigit_88 (fun H locs hP hD hS => ?_)
          have hP : va_P (dC, dI) vwCl [(h0, .inr (2, [.ref r0, .ref r1, .ref r2, .ref r3, .ref r4, .int nc, .int ss, .int ib, .int li, .int ff, .int fp])), (r0, .inr (1, [.int r_2.1, .int r_2.2.1, .long r_2.2.2.1, .int r_2.2.2.2.1, .int r_2.2.2.2.2])), (r1, .inl (cJ, 5, .inr (.inl (vp_updL nb nc.toNatClampNeg r_16))))] H := hP
          have hD : va_D A [(h0, .inr (2, [.ref r0, .ref r1, .ref r2, .ref r3, .ref r4, .int nc, .int ss, .int ib, .int li, .int ff, .int fp])), (r0, .inr (1, [.int r_2.1, .int r_2.2.1, .long r_2.2.2.1, .int r_2.2.2.2.1, .int r_2.2.2.2.2])), (r1, .inl (cJ, 5, .inr (.inl (vp_updL nb nc.toNatClampNeg r_16))))] := hD
          refine lv_aload_n hx hb dX2_takeDigit_89 rfl (lv_at hl 0 rfl) ?_
          refine lv_dup hx hb dX2_takeDigit_90 rfl ?_
          refine va_get (D := (dC, dI)) (ci := 2) (v := .int nc) (C := RX2) (T := TX2) (N := 11) hx hb hts inc_X2_takeDigit_2 hown hG.1 hP 0 rfl rfl 5 (by decide) (hts (.fieldLink RX2 76 "MappingDesk$Reader" "numberCount" "I") (by decide +kernel)) (fun _ h9 => h9) rfl dX2_takeDigit_91 ?_
          refine lv_iconst (v := 1) hx hb dX2_takeDigit_94 (by decide) ?_
          refine lv_iadd hx hb dX2_takeDigit_95 ?_
          refine va_put (D := (dC, dI)) (ci := 2) (v := .int (nc + 1)) (ty := .int) (C := RX2) (T := TX2) (N := 11) hx hb hts inc_X2_takeDigit_2 tyX2 tyX2_ok nmX2 hown hG.1 hP hD hS 0 rfl rfl 5 (by decide) (hts (.fieldLink RX2 76 "MappingDesk$Reader" "numberCount" "I") (by decide +kernel)) (fun _ h9 => h9) rfl (by decide +kernel) rfl rfl (Nat.le_of_ble_eq_true rfl) dX2_takeDigit_96 (fun H locs hP hD hS => ?_)
          have hP : va_P (dC, dI) vwCl [(h0, .inr (2, [.ref r0, .ref r1, .ref r2, .ref r3, .ref r4, .int (nc + 1), .int ss, .int ib, .int li, .int ff, .int fp])), (r0, .inr (1, [.int r_2.1, .int r_2.2.1, .long r_2.2.2.1, .int r_2.2.2.2.1, .int r_2.2.2.2.2])), (r1, .inl (cJ, 5, .inr (.inl (vp_updL nb nc.toNatClampNeg r_16))))] H := hP
          have hD : va_D A [(h0, .inr (2, [.ref r0, .ref r1, .ref r2, .ref r3, .ref r4, .int (nc + 1), .int ss, .int ib, .int li, .int ff, .int fp])), (r0, .inr (1, [.int r_2.1, .int r_2.2.1, .long r_2.2.2.1, .int r_2.2.2.2.1, .int r_2.2.2.2.2])), (r1, .inl (cJ, 5, .inr (.inl (vp_updL nb nc.toNatClampNeg r_16))))] := hD
          have e_26 : 0 ≤ ((nc + 1) : Int32).toInt ∧ ((nc + 1) : Int32).toInt ≤ nc.toInt + 1 := by
            have k_27 : (0 : Int32).toInt = 0 := by decide
            have q_28 := i_ne c_1
            have q_29 := i_eq c_3
            have q_30 := i_eq c_5
            have k_31 : (5 : Int32).toInt = 5 := by decide
            have q_32 := i_nle c_6
            have k_33 : (1 : Int32).toInt = 1 := by decide
            have t_34 := ti_add (a := nc) (b := 1) (by omega) (by omega)
            try generalize Int32.toInt (nc + 1) = z0 at *
            try generalize Int32.toInt r_2.1 = z1 at *
            try generalize Int32.toInt r_4 = z2 at *
            try generalize Int32.toInt nc = z3 at *
            try generalize Int32.toInt (0 : Int32) = z4 at *
            try generalize Int32.toInt (1 : Int32) = z5 at *
            try generalize Int32.toInt (5 : Int32) = z6 at *
            omega
          subst hR
          exact W.vret hx hb hr (fun t ht hW => ⟨⟨(), rfl, e_26, by rw [ht]; exact hP, hD⟩, hS.F ht⟩) hS.2.2 dX2_takeDigit_99
      · rw [if_neg c_5] at hR
        refine lv_aload_n hx hb dX2_takeDigit_52 rfl (lv_at hl 0 rfl) ?_
        refine lv_iconst (v := 2) hx hb dX2_takeDigit_53 (by decide) ?_
        refine lv_aload_n hx hb dX2_takeDigit_54 rfl (lv_at hl 0 rfl) ?_
        refine va_get (D := (dC, dI)) (ci := 2) (v := .ref r0) (C := RX2) (T := TX2) (N := 11) hx hb hts inc_X2_takeDigit_2 hown hG.1 hP 0 rfl rfl 0 (by decide) (hts (.fieldLink RX2 12 "MappingDesk$Reader" "number" "LMappingDesk$NumberTaker;") (by decide +kernel)) (fun _ h9 => h9) rfl dX2_takeDigit_55 ?_
        refine va_getN (D := (dC, dI)) (ci := 1) (v := .int r_2.2.1) (C := RX1) (T := TX1) (N := 5) hx hb hts inc_X2_takeDigit_1 hown hG.1 hP 1 rfl rfl 1 (by decide) (hG.nf (a := RX2) (i := 121) (b := "MappingDesk$NumberTaker") (n := "start") (d := "I") (t := "MappingDesk") (by decide +kernel)) (fun _ h9 => h9) rfl dX2_takeDigit_58 ?_
        have hPc := hP.sub (ws' := [(h0, .inr (2, [.ref r0, .ref r1, .ref r2, .ref r3, .ref r4, .int nc, .int ss, .int ib, .int li, .int ff, .int fp]))]) [0] rfl
        have hDc := hD.sub (ws' := [(h0, .inr (2, [.ref r0, .ref r1, .ref r2, .ref r3, .ref r4, .int nc, .int ss, .int ib, .int li, .int ff, .int fp]))]) [0] (by decide) rfl
        have hFc := va_free (wc := [(h0, .inr (2, [.ref r0, .ref r1, .ref r2, .ref r3, .ref r4, .int nc, .int ss, .int ib, .int li, .int ff, .int fp]))]) hD hS hA [0] rfl
        refine va_callv (va_runV (As := [.int 2, .int r_2.2.1]) (rest := []) ⟨hx, hb, hml, hown, hts⟩ (c_X2_refuse l dC dI cB cC cI cJ H.size h0 r0 r1 r2 r3 r4 nc ss ib li ff fp 2 r_2.2.1 ) (cwV 2 hts gX2_takeDigit_X2_refuse rfl rfl rfl (by decide +kernel) ⟨(Nat.le_of_ble_eq_true rfl), (Nat.le_of_ble_eq_true rfl)⟩) ⟨cP_blind, va_recv hG.1 hPc (ci := 2) (q0 := 0) rfl rfl, cP_pre hPc hG hDc⟩ rfl rfl hl.1 rfl (lv_room (Nat.le_of_ble_eq_true rfl)) dX2_takeDigit_61 ⟨Nat.le_of_ble_eq_true rfl, Nat.le_of_ble_eq_true rfl⟩) hS (fun q _ h => hFc q h) hFc (fun u t H1 locs ht hvm hw hB hz1 hk1 hS => ?_)
        obtain ⟨hP1, hD1⟩ := hB
        rw [ht] at hP1
        generalize hr_35 : fX2_refuse nc ss ib li ff fp 2 r_2.2.1 = r_35 at hP1 hD1
        rw [bnd_eq hr_35] at hR
        obtain ⟨hP, hD⟩ := va_join (wr := [(r0, .inr (1, [.int r_2.1, .int r_2.2.1, .long r_2.2.2.1, .int r_2.2.2.2.1, .int r_2.2.2.2.2])), (r1, .inl (cJ, 5, .inr (.inl nb)))]) (w1 := [(h0, .inr (2, [.ref r0, .ref r1, .ref r2, .ref r3, .ref r4, .int nc, .int ss, .int ib, .int li, .int r_35.1, .int r_35.2]))]) hP hD [0] [1, 2] rfl rfl (by decide) (by decide) hk1 hFc hP1 hD1
        generalize H1 = H at hP hS ⊢
        have hP := hP.sub (ws' := [(h0, .inr (2, [.ref r0, .ref r1, .ref r2, .ref r3, .ref r4, .int nc, .int ss, .int ib, .int li, .int r_35.1, .int r_35.2])), (r0, .inr (1, [.int r_2.1, .int r_2.2.1, .long r_2.2.2.1, .int r_2.2.2.2.1, .int r_2.2.2.2.2])), (r1, .inl (cJ, 5, .inr (.inl nb)))]) [2, 0, 1] rfl
        have hD := hD.sub (ws' := [(h0, .inr (2, [.ref r0, .ref r1, .ref r2, .ref r3, .ref r4, .int nc, .int ss, .int ib, .int li, .int r_35.1, .int r_35.2])), (r0, .inr (1, [.int r_2.1, .int r_2.2.1, .long r_2.2.2.1, .int r_2.2.2.2.1, .int r_2.2.2.2.2])), (r1, .inl (cJ, 5, .inr (.inl nb)))]) [2, 0, 1] (by decide) rfl
        have e_36 : 0 ≤ (nc : Int32).toInt ∧ (nc : Int32).toInt ≤ nc.toInt + 1 := by
          have k_37 : (0 : Int32).toInt = 0 := by decide
          have q_38 := i_ne c_1
          have q_39 := i_eq c_3
          have q_40 := i_ne c_5
          try generalize Int32.toInt r_2.1 = z0 at *
          try generalize Int32.toInt r_4 = z1 at *
          try generalize Int32.toInt nc = z2 at *
          try generalize Int32.toInt (0 : Int32) = z3 at *
          omega
        subst hR
        exact W.vret hx hb hr (fun t ht hW => ⟨⟨(), rfl, e_36, by rw [ht]; exact hP, hD⟩, hS.F ht⟩) hS.2.2 dX2_takeDigit_64
    · rw [if_neg c_3] at hR
      have e_41 : 0 ≤ (nc : Int32).toInt ∧ (nc : Int32).toInt ≤ nc.toInt + 1 := by
        have k_42 : (0 : Int32).toInt = 0 := by decide
        have q_43 := i_ne c_1
        have q_44 := i_ne c_3
        try generalize Int32.toInt r_2.1 = z0 at *
        try generalize Int32.toInt nc = z1 at *
        try generalize Int32.toInt (0 : Int32) = z2 at *
        omega
      subst hR
      exact W.vret hx hb hr (fun t ht hW => ⟨⟨(), rfl, e_41, by rw [ht]; exact hP, hD⟩, hS.F ht⟩) hS.2.2 dX2_takeDigit_41
  · rw [if_pos c_1] at hR
    refine lv_aload_n hx hb dX2_takeDigit_7 rfl (lv_at hl 0 rfl) ?_
    refine va_get (D := (dC, dI)) (ci := 2) (v := .ref r0) (C := RX2) (T := TX2) (N := 11) hx hb hts inc_X2_takeDigit_2 hown hG.1 hP 0 rfl rfl 0 (by decide) (hts (.fieldLink RX2 12 "MappingDesk$Reader" "number" "LMappingDesk$NumberTaker;") (by decide +kernel)) (fun _ h9 => h9) rfl dX2_takeDigit_8 ?_
    refine va_getN (D := (dC, dI)) (ci := 1) (v := .int n0) (C := RX1) (T := TX1) (N := 5) hx hb hts inc_X2_takeDigit_1 hown hG.1 hP 1 rfl rfl 0 (by decide) (hG.nf (a := RX2) (i := 111) (b := "MappingDesk$NumberTaker") (n := "isOpen") (d := "Z") (t := "MappingDesk") (by decide +kernel)) (fun _ h9 => h9) rfl dX2_takeDigit_11 ?_
    refine lv_if_ne (tgt := 22) hx hb dX2_takeDigit_14 (by decide) (fun c_45 => ?_) (fun c_45 => ?_)
    · rw [if_neg c_45] at hR
      refine lv_aload_n hx hb dX2_takeDigit_22 rfl (lv_at hl 0 rfl) ?_
      refine va_get (D := (dC, dI)) (ci := 2) (v := .ref r0) (C := RX2) (T := TX2) (N := 11) hx hb hts inc_X2_takeDigit_2 hown hG.1 hP 0 rfl rfl 0 (by decide) (hts (.fieldLink RX2 12 "MappingDesk$Reader" "number" "LMappingDesk$NumberTaker;") (by decide +kernel)) (fun _ h9 => h9) rfl dX2_takeDigit_23 ?_
      refine lv_iload_n hx hb dX2_takeDigit_26 rfl (lv_at hl 1 rfl) ?_
      refine lv_iload_n hx hb dX2_takeDigit_27 rfl (lv_at hl 2 rfl) ?_
      have hPc := hP.sub (ws' := [(r0, .inr (1, [.int n0, .int n1, .long n2, .int n3, .int n4]))]) [1] rfl
      have hDc := hD.sub (ws' := [(r0, .inr (1, [.int n0, .int n1, .long n2, .int n3, .int n4]))]) [1] (by decide) rfl
      have hFc := va_free (wc := [(r0, .inr (1, [.int n0, .int n1, .long n2, .int n3, .int n4]))]) hD hS hA [1] rfl
      refine va_callv (va_runVN (C := RX1) (As := [.int x, .int y]) (rest := []) ⟨hx, hb, hml, hown, hts⟩ (c_X1_take l dC dI cB cC cI cJ H.size r0 n0 n1 n2 n3 n4 x y ) ⟨va_cnB 2 hts gX2_takeDigit_X1_take_n114 rfl rfl rfl (hG.nm (A := #[]) (w := .methodLinkNest RX2 114 yX1_take "MappingDesk") (by decide +kernel)) (hts (.initialized RX1) (by decide +kernel)) (by decide +kernel) ⟨(Nat.le_of_ble_eq_true rfl), (Nat.le_of_ble_eq_true rfl)⟩, hts (.instanceMethod yX1_take) (by decide +kernel), hts (.selects RX1 yX1_take yX1_take) (by decide +kernel)⟩ ⟨cP_blind, va_recv hG.1 hPc (ci := 1) (q0 := 0) rfl rfl, cP_pre hPc hG hDc⟩ rfl rfl hl.1 rfl (lv_room (Nat.le_of_ble_eq_true rfl)) dX2_takeDigit_28 ⟨Nat.le_of_ble_eq_true rfl, Nat.le_of_ble_eq_true rfl⟩) hS (fun q _ h => hFc q h) hFc (fun u t H1 locs ht hvm hw hB hz1 hk1 hS => ?_)
      obtain ⟨hP1, hD1⟩ := hB
      rw [ht] at hP1
      generalize hr_46 : fX1_take n0 n1 n2 n3 n4 x y = r_46 at hP1 hD1
      rw [bnd_eq hr_46] at hR
      obtain ⟨hP, hD⟩ := va_join (wr := [(h0, .inr (2, [.ref r0, .ref r1, .ref r2, .ref r3, .ref r4, .int nc, .int ss, .int ib, .int li, .int ff, .int fp])), (r1, .inl (cJ, 5, .inr (.inl nb)))]) (w1 := [(r0, .inr (1, [.int r_46.1, .int r_46.2.1, .long r_46.2.2.1, .int r_46.2.2.2.1, .int r_46.2.2.2.2]))]) hP hD [1] [0, 2] rfl rfl (by decide) (by decide) hk1 hFc hP1 hD1
      generalize H1 = H at hP hS ⊢
      have hP := hP.sub (ws' := [(h0, .inr (2, [.ref r0, .ref r1, .ref r2, .ref r3, .ref r4, .int nc, .int ss, .int ib, .int li, .int ff, .int fp])), (r0, .inr (1, [.int r_46.1, .int r_46.2.1, .long r_46.2.2.1, .int r_46.2.2.2.1, .int r_46.2.2.2.2])), (r1, .inl (cJ, 5, .inr (.inl nb)))]) [0, 2, 1] rfl
      have hD := hD.sub (ws' := [(h0, .inr (2, [.ref r0, .ref r1, .ref r2, .ref r3, .ref r4, .int nc, .int ss, .int ib, .int li, .int ff, .int fp])), (r0, .inr (1, [.int r_46.1, .int r_46.2.1, .long r_46.2.2.1, .int r_46.2.2.2.1, .int r_46.2.2.2.2])), (r1, .inl (cJ, 5, .inr (.inl nb)))]) [0, 2, 1] (by decide) rfl
      refine lv_aload_n hx hb dX2_takeDigit_31 rfl (lv_at hl 0 rfl) ?_
      refine va_get (D := (dC, dI)) (ci := 2) (v := .ref r0) (C := RX2) (T := TX2) (N := 11) hx hb hts inc_X2_takeDigit_2 hown hG.1 hP 0 rfl rfl 0 (by decide) (hts (.fieldLink RX2 12 "MappingDesk$Reader" "number" "LMappingDesk$NumberTaker;") (by decide +kernel)) (fun _ h9 => h9) rfl dX2_takeDigit_32 ?_
      refine va_getN (D := (dC, dI)) (ci := 1) (v := .int r_46.1) (C := RX1) (T := TX1) (N := 5) hx hb hts inc_X2_takeDigit_1 hown hG.1 hP 1 rfl rfl 0 (by decide) (hG.nf (a := RX2) (i := 111) (b := "MappingDesk$NumberTaker") (n := "isOpen") (d := "Z") (t := "MappingDesk") (by decide +kernel)) (fun _ h9 => h9) rfl dX2_takeDigit_35 ?_
      refine lv_if_eq (tgt := 42) hx hb dX2_takeDigit_38 (by decide) (fun c_47 => ?_) (fun c_47 => ?_)
      · rw [if_pos c_47] at hR
        refine lv_aload_n hx hb dX2_takeDigit_42 rfl (lv_at hl 0 rfl) ?_
        refine va_get (D := (dC, dI)) (ci := 2) (v := .ref r0) (C := RX2) (T := TX2) (N := 11) hx hb hts inc_X2_takeDigit_2 hown hG.1 hP 0 rfl rfl 0 (by decide) (hts (.fieldLink RX2 12 "MappingDesk$Reader" "number" "LMappingDesk$NumberTaker;") (by decide +kernel)) (fun _ h9 => h9) rfl dX2_takeDigit_43 ?_
        have hPc := hP.sub (ws' := [(r0, .inr (1, [.int r_46.1, .int r_46.2.1, .long r_46.2.2.1, .int r_46.2.2.2.1, .int r_46.2.2.2.2]))]) [1] rfl
        have hDc := hD.sub (ws' := [(r0, .inr (1, [.int r_46.1, .int r_46.2.1, .long r_46.2.2.1, .int r_46.2.2.2.1, .int r_46.2.2.2.2]))]) [1] (by decide) rfl
        refine vp_callSi (va_Run.run (va_runVN (C := RX1) (As := []) (rest := []) ⟨hx, hb, hml, hown, hts⟩ (c_X1_isTooLarge l dC dI cB cC cI cJ H.size r0 r_46.1 r_46.2.1 r_46.2.2.1 r_46.2.2.2.1 r_46.2.2.2.2 ) ⟨va_cnB 0 hts gX2_takeDigit_X1_isTooLarge_n117 rfl rfl rfl (hG.nm (A := #[]) (w := .methodLinkNest RX2 117 yX1_isTooLarge "MappingDesk") (by decide +kernel)) (hts (.initialized RX1) (by decide +kernel)) (by decide +kernel) ⟨(Nat.le_of_ble_eq_true rfl), (Nat.le_of_ble_eq_true rfl)⟩, hts (.instanceMethod yX1_isTooLarge) (by decide +kernel), hts (.selects RX1 yX1_isTooLarge yX1_isTooLarge) (by decide +kernel)⟩ ⟨cP_blind, va_recv hG.1 hPc (ci := 1) (q0 := 0) rfl rfl, cP_pre hPc hG hDc⟩ rfl rfl hl.1 rfl (lv_room (Nat.le_of_ble_eq_true rfl)) dX2_takeDigit_46 ⟨Nat.le_of_ble_eq_true rfl, Nat.le_of_ble_eq_true rfl⟩)) (fun r_48 hr_48 => ?_)
        rw [bnd_eq hr_48.symm] at hR
        refine lv_if_eq (tgt := 65) hx hb dX2_takeDigit_49 (by decide) (fun c_49 => ?_) (fun c_49 => ?_)
        · rw [if_pos c_49] at hR
          refine lv_aload_n hx hb dX2_takeDigit_65 rfl (lv_at hl 0 rfl) ?_
          refine va_get (D := (dC, dI)) (ci := 2) (v := .int nc) (C := RX2) (T := TX2) (N := 11) hx hb hts inc_X2_takeDigit_2 hown hG.1 hP 0 rfl rfl 5 (by decide) (hts (.fieldLink RX2 76 "MappingDesk$Reader" "numberCount" "I") (by decide +kernel)) (fun _ h9 => h9) rfl dX2_takeDigit_66 ?_
          refine lv_iconst (v := 5) hx hb dX2_takeDigit_69 (by decide) ?_
          refine lv_icmp_ge (tgt := 89) hx hb dX2_takeDigit_70 (by decide) (fun c_50 => ?_) (fun c_50 => ?_)
          · rw [if_pos c_50] at hR
            refine lv_aload_n hx hb dX2_takeDigit_89 rfl (lv_at hl 0 rfl) ?_
            refine lv_dup hx hb dX2_takeDigit_90 rfl ?_
            refine va_get (D := (dC, dI)) (ci := 2) (v := .int nc) (C := RX2) (T := TX2) (N := 11) hx hb hts inc_X2_takeDigit_2 hown hG.1 hP 0 rfl rfl 5 (by decide) (hts (.fieldLink RX2 76 "MappingDesk$Reader" "numberCount" "I") (by decide +kernel)) (fun _ h9 => h9) rfl dX2_takeDigit_91 ?_
            refine lv_iconst (v := 1) hx hb dX2_takeDigit_94 (by decide) ?_
            refine lv_iadd hx hb dX2_takeDigit_95 ?_
            refine va_put (D := (dC, dI)) (ci := 2) (v := .int (nc + 1)) (ty := .int) (C := RX2) (T := TX2) (N := 11) hx hb hts inc_X2_takeDigit_2 tyX2 tyX2_ok nmX2 hown hG.1 hP hD hS 0 rfl rfl 5 (by decide) (hts (.fieldLink RX2 76 "MappingDesk$Reader" "numberCount" "I") (by decide +kernel)) (fun _ h9 => h9) rfl (by decide +kernel) rfl rfl (Nat.le_of_ble_eq_true rfl) dX2_takeDigit_96 (fun H locs hP hD hS => ?_)
            have hP : va_P (dC, dI) vwCl [(h0, .inr (2, [.ref r0, .ref r1, .ref r2, .ref r3, .ref r4, .int (nc + 1), .int ss, .int ib, .int li, .int ff, .int fp])), (r0, .inr (1, [.int r_46.1, .int r_46.2.1, .long r_46.2.2.1, .int r_46.2.2.2.1, .int r_46.2.2.2.2])), (r1, .inl (cJ, 5, .inr (.inl nb)))] H := hP
            have hD : va_D A [(h0, .inr (2, [.ref r0, .ref r1, .ref r2, .ref r3, .ref r4, .int (nc + 1), .int ss, .int ib, .int li, .int ff, .int fp])), (r0, .inr (1, [.int r_46.1, .int r_46.2.1, .long r_46.2.2.1, .int r_46.2.2.2.1, .int r_46.2.2.2.2])), (r1, .inl (cJ, 5, .inr (.inl nb)))] := hD
            have e_51 : 0 ≤ ((nc + 1) : Int32).toInt ∧ ((nc + 1) : Int32).toInt ≤ nc.toInt + 1 := by
              have k_52 : (0 : Int32).toInt = 0 := by decide
              have q_53 := i_eq c_1
              have q_54 := i_ne c_45
              have q_55 := i_eq c_47
              have q_56 := i_eq c_49
              have k_57 : (5 : Int32).toInt = 5 := by decide
              have q_58 := i_le c_50
              have k_59 : (1 : Int32).toInt = 1 := by decide
              have t_60 := ti_add (a := nc) (b := 1) (by omega) (by omega)
              try generalize Int32.toInt (nc + 1) = z0 at *
              try generalize Int32.toInt r_46.1 = z1 at *
              try generalize Int32.toInt r_48 = z2 at *
              try generalize Int32.toInt n0 = z3 at *
              try generalize Int32.toInt nc = z4 at *
              try generalize Int32.toInt (0 : Int32) = z5 at *
              try generalize Int32.toInt (1 : Int32) = z6 at *
              try generalize Int32.toInt (5 : Int32) = z7 at *
              omega
            subst hR
            exact W.vret hx hb hr (fun t ht hW => ⟨⟨(), rfl, e_51, by rw [ht]; exact hP, hD⟩, hS.F ht⟩) hS.2.2 dX2_takeDigit_99
          · rw [if_neg c_50] at hR
            refine lv_aload_n hx hb dX2_takeDigit_73 rfl (lv_at hl 0 rfl) ?_
            refine va_get (D := (dC, dI)) (ci := 2) (v := .ref r1) (C := RX2) (T := TX2) (N := 11) hx hb hts inc_X2_takeDigit_2 hown hG.1 hP 0 rfl rfl 1 (by decide) (hts (.fieldLink RX2 18 "MappingDesk$Reader" "numbers" "[J") (by decide +kernel)) (fun _ h9 => h9) rfl dX2_takeDigit_74 ?_
            refine lv_aload_n hx hb dX2_takeDigit_77 rfl (lv_at hl 0 rfl) ?_
            refine va_get (D := (dC, dI)) (ci := 2) (v := .int nc) (C := RX2) (T := TX2) (N := 11) hx hb hts inc_X2_takeDigit_2 hown hG.1 hP 0 rfl rfl 5 (by decide) (hts (.fieldLink RX2 76 "MappingDesk$Reader" "numberCount" "I") (by decide +kernel)) (fun _ h9 => h9) rfl dX2_takeDigit_78 ?_
            refine lv_aload_n hx hb dX2_takeDigit_81 rfl (lv_at hl 0 rfl) ?_
            refine va_get (D := (dC, dI)) (ci := 2) (v := .ref r0) (C := RX2) (T := TX2) (N := 11) hx hb hts inc_X2_takeDigit_2 hown hG.1 hP 0 rfl rfl 0 (by decide) (hts (.fieldLink RX2 12 "MappingDesk$Reader" "number" "LMappingDesk$NumberTaker;") (by decide +kernel)) (fun _ h9 => h9) rfl dX2_takeDigit_82 ?_
            have hPc := hP.sub (ws' := [(r0, .inr (1, [.int r_46.1, .int r_46.2.1, .long r_46.2.2.1, .int r_46.2.2.2.1, .int r_46.2.2.2.2]))]) [1] rfl
            have hDc := hD.sub (ws' := [(r0, .inr (1, [.int r_46.1, .int r_46.2.1, .long r_46.2.2.1, .int r_46.2.2.2.1, .int r_46.2.2.2.2]))]) [1] (by decide) rfl
            refine vp_callSl (va_Run.run (va_runVN (C := RX1) (As := []) (rest := [.int nc, .ref r1]) ⟨hx, hb, hml, hown, hts⟩ (c_X1_value l dC dI cB cC cI cJ H.size r0 r_46.1 r_46.2.1 r_46.2.2.1 r_46.2.2.2.1 r_46.2.2.2.2 ) ⟨va_cnB 0 hts gX2_takeDigit_X1_value_n123 rfl rfl rfl (hG.nm (A := #[]) (w := .methodLinkNest RX2 123 yX1_value "MappingDesk") (by decide +kernel)) (hts (.initialized RX1) (by decide +kernel)) (by decide +kernel) ⟨(Nat.le_of_ble_eq_true rfl), (Nat.le_of_ble_eq_true rfl)⟩, hts (.instanceMethod yX1_value) (by decide +kernel), hts (.selects RX1 yX1_value yX1_value) (by decide +kernel)⟩ ⟨cP_blind, va_recv hG.1 hPc (ci := 1) (q0 := 0) rfl rfl, cP_pre hPc hG hDc⟩ rfl rfl hl.1 rfl (lv_room (Nat.le_of_ble_eq_true rfl)) dX2_takeDigit_85 ⟨Nat.le_of_ble_eq_true rfl, Nat.le_of_ble_eq_true rfl⟩)) (fun r_61 hr_61 => ?_)
            rw [bnd_eq hr_61.symm] at hR
            have b_62 : vp_in nc 5 := by
              have k_63 : (0 : Int32).toInt = 0 := by decide
              have q_64 := i_eq c_1
              have q_65 := i_ne c_45
              have q_66 := i_eq c_47
              have q_67 := i_eq c_49
              have k_68 : (5 : Int32).toInt = 5 := by decide
              have q_69 := i_nle c_50
              refine vin ?_ ?_
              all_goals (try generalize Int32.toInt r_46.1 = z0 at *; try generalize Int32.toInt r_48 = z1 at *; try generalize Int32.toInt n0 = z2 at *; try generalize Int32.toInt nc = z3 at *; try generalize Int32.toInt (0 : Int32) = z4 at *; try generalize Int32.toInt (5 : Int32) = z5 at *; omega)
            refine va_last hx hb hG.1 hP hD hS 2 3 rfl rfl b_62 dX2_takeDigit_88 (fun H locs hP hD hS => ?_)
            have hP : va_P (dC, dI) vwCl [(h0, .inr (2, [.ref r0, .ref r1, .ref r2, .ref r3, .ref r4, .int nc, .int ss, .int ib, .int li, .int ff, .int fp])), (r0, .inr (1, [.int r_46.1, .int r_46.2.1, .long r_46.2.2.1, .int r_46.2.2.2.1, .int r_46.2.2.2.2])), (r1, .inl (cJ, 5, .inr (.inl (vp_updL nb nc.toNatClampNeg r_61))))] H := hP
            have hD : va_D A [(h0, .inr (2, [.ref r0, .ref r1, .ref r2, .ref r3, .ref r4, .int nc, .int ss, .int ib, .int li, .int ff, .int fp])), (r0, .inr (1, [.int r_46.1, .int r_46.2.1, .long r_46.2.2.1, .int r_46.2.2.2.1, .int r_46.2.2.2.2])), (r1, .inl (cJ, 5, .inr (.inl (vp_updL nb nc.toNatClampNeg r_61))))] := hD
            refine lv_aload_n hx hb dX2_takeDigit_89 rfl (lv_at hl 0 rfl) ?_
            refine lv_dup hx hb dX2_takeDigit_90 rfl ?_
            refine va_get (D := (dC, dI)) (ci := 2) (v := .int nc) (C := RX2) (T := TX2) (N := 11) hx hb hts inc_X2_takeDigit_2 hown hG.1 hP 0 rfl rfl 5 (by decide) (hts (.fieldLink RX2 76 "MappingDesk$Reader" "numberCount" "I") (by decide +kernel)) (fun _ h9 => h9) rfl dX2_takeDigit_91 ?_
            refine lv_iconst (v := 1) hx hb dX2_takeDigit_94 (by decide) ?_
            refine lv_iadd hx hb dX2_takeDigit_95 ?_
            refine va_put (D := (dC, dI)) (ci := 2) (v := .int (nc + 1)) (ty := .int) (C := RX2) (T := TX2) (N := 11) hx hb hts inc_X2_takeDigit_2 tyX2 tyX2_ok nmX2 hown hG.1 hP hD hS 0 rfl rfl 5 (by decide) (hts (.fieldLink RX2 76 "MappingDesk$Reader" "numberCount" "I") (by decide +kernel)) (fun _ h9 => h9) rfl (by decide +kernel) rfl rfl (Nat.le_of_ble_eq_true rfl) dX2_takeDigit_96 (fun H locs hP hD hS => ?_)
            have hP : va_P (dC, dI) vwCl [(h0, .inr (2, [.ref r0, .ref r1, .ref r2, .ref r3, .ref r4, .int (nc + 1), .int ss, .int ib, .int li, .int ff, .int fp])), (r0, .inr (1, [.int r_46.1, .int r_46.2.1, .long r_46.2.2.1, .int r_46.2.2.2.1, .int r_46.2.2.2.2])), (r1, .inl (cJ, 5, .inr (.inl (vp_updL nb nc.toNatClampNeg r_61))))] H := hP
            have hD : va_D A [(h0, .inr (2, [.ref r0, .ref r1, .ref r2, .ref r3, .ref r4, .int (nc + 1), .int ss, .int ib, .int li, .int ff, .int fp])), (r0, .inr (1, [.int r_46.1, .int r_46.2.1, .long r_46.2.2.1, .int r_46.2.2.2.1, .int r_46.2.2.2.2])), (r1, .inl (cJ, 5, .inr (.inl (vp_updL nb nc.toNatClampNeg r_61))))] := hD
            have e_72 : 0 ≤ ((nc + 1) : Int32).toInt ∧ ((nc + 1) : Int32).toInt ≤ nc.toInt + 1 := by
              have k_73 : (0 : Int32).toInt = 0 := by decide
              have q_74 := i_eq c_1
              have q_75 := i_ne c_45
              have q_76 := i_eq c_47
              have q_77 := i_eq c_49
              have k_78 : (5 : Int32).toInt = 5 := by decide
              have q_79 := i_nle c_50
              have k_80 : (1 : Int32).toInt = 1 := by decide
              have t_81 := ti_add (a := nc) (b := 1) (by omega) (by omega)
              try generalize Int32.toInt (nc + 1) = z0 at *
              try generalize Int32.toInt r_46.1 = z1 at *
              try generalize Int32.toInt r_48 = z2 at *
              try generalize Int32.toInt n0 = z3 at *
              try generalize Int32.toInt nc = z4 at *
              try generalize Int32.toInt (0 : Int32) = z5 at *
              try generalize Int32.toInt (1 : Int32) = z6 at *
              try generalize Int32.toInt (5 : Int32) = z7 at *
              omega
            subst hR
            exact W.vret hx hb hr (fun t ht hW => ⟨⟨(), rfl, e_72, by rw [ht]; exact hP, hD⟩, hS.F ht⟩) hS.2.2 dX2_takeDigit_99
        · rw [if_neg c_49] at hR
          refine lv_aload_n hx hb dX2_takeDigit_52 rfl (lv_at hl 0 rfl) ?_
          refine lv_iconst (v := 2) hx hb dX2_takeDigit_53 (by decide) ?_
          refine lv_aload_n hx hb dX2_takeDigit_54 rfl (lv_at hl 0 rfl) ?_
          refine va_get (D := (dC, dI)) (ci := 2) (v := .ref r0) (C := RX2) (T := TX2) (N := 11) hx hb hts inc_X2_takeDigit_2 hown hG.1 hP 0 rfl rfl 0 (by decide) (hts (.fieldLink RX2 12 "MappingDesk$Reader" "number" "LMappingDesk$NumberTaker;") (by decide +kernel)) (fun _ h9 => h9) rfl dX2_takeDigit_55 ?_
          refine va_getN (D := (dC, dI)) (ci := 1) (v := .int r_46.2.1) (C := RX1) (T := TX1) (N := 5) hx hb hts inc_X2_takeDigit_1 hown hG.1 hP 1 rfl rfl 1 (by decide) (hG.nf (a := RX2) (i := 121) (b := "MappingDesk$NumberTaker") (n := "start") (d := "I") (t := "MappingDesk") (by decide +kernel)) (fun _ h9 => h9) rfl dX2_takeDigit_58 ?_
          have hPc := hP.sub (ws' := [(h0, .inr (2, [.ref r0, .ref r1, .ref r2, .ref r3, .ref r4, .int nc, .int ss, .int ib, .int li, .int ff, .int fp]))]) [0] rfl
          have hDc := hD.sub (ws' := [(h0, .inr (2, [.ref r0, .ref r1, .ref r2, .ref r3, .ref r4, .int nc, .int ss, .int ib, .int li, .int ff, .int fp]))]) [0] (by decide) rfl
          have hFc := va_free (wc := [(h0, .inr (2, [.ref r0, .ref r1, .ref r2, .ref r3, .ref r4, .int nc, .int ss, .int ib, .int li, .int ff, .int fp]))]) hD hS hA [0] rfl
          refine va_callv (va_runV (As := [.int 2, .int r_46.2.1]) (rest := []) ⟨hx, hb, hml, hown, hts⟩ (c_X2_refuse l dC dI cB cC cI cJ H.size h0 r0 r1 r2 r3 r4 nc ss ib li ff fp 2 r_46.2.1 ) (cwV 2 hts gX2_takeDigit_X2_refuse rfl rfl rfl (by decide +kernel) ⟨(Nat.le_of_ble_eq_true rfl), (Nat.le_of_ble_eq_true rfl)⟩) ⟨cP_blind, va_recv hG.1 hPc (ci := 2) (q0 := 0) rfl rfl, cP_pre hPc hG hDc⟩ rfl rfl hl.1 rfl (lv_room (Nat.le_of_ble_eq_true rfl)) dX2_takeDigit_61 ⟨Nat.le_of_ble_eq_true rfl, Nat.le_of_ble_eq_true rfl⟩) hS (fun q _ h => hFc q h) hFc (fun u t H1 locs ht hvm hw hB hz1 hk1 hS => ?_)
          obtain ⟨hP1, hD1⟩ := hB
          rw [ht] at hP1
          generalize hr_82 : fX2_refuse nc ss ib li ff fp 2 r_46.2.1 = r_82 at hP1 hD1
          rw [bnd_eq hr_82] at hR
          obtain ⟨hP, hD⟩ := va_join (wr := [(r0, .inr (1, [.int r_46.1, .int r_46.2.1, .long r_46.2.2.1, .int r_46.2.2.2.1, .int r_46.2.2.2.2])), (r1, .inl (cJ, 5, .inr (.inl nb)))]) (w1 := [(h0, .inr (2, [.ref r0, .ref r1, .ref r2, .ref r3, .ref r4, .int nc, .int ss, .int ib, .int li, .int r_82.1, .int r_82.2]))]) hP hD [0] [1, 2] rfl rfl (by decide) (by decide) hk1 hFc hP1 hD1
          generalize H1 = H at hP hS ⊢
          have hP := hP.sub (ws' := [(h0, .inr (2, [.ref r0, .ref r1, .ref r2, .ref r3, .ref r4, .int nc, .int ss, .int ib, .int li, .int r_82.1, .int r_82.2])), (r0, .inr (1, [.int r_46.1, .int r_46.2.1, .long r_46.2.2.1, .int r_46.2.2.2.1, .int r_46.2.2.2.2])), (r1, .inl (cJ, 5, .inr (.inl nb)))]) [2, 0, 1] rfl
          have hD := hD.sub (ws' := [(h0, .inr (2, [.ref r0, .ref r1, .ref r2, .ref r3, .ref r4, .int nc, .int ss, .int ib, .int li, .int r_82.1, .int r_82.2])), (r0, .inr (1, [.int r_46.1, .int r_46.2.1, .long r_46.2.2.1, .int r_46.2.2.2.1, .int r_46.2.2.2.2])), (r1, .inl (cJ, 5, .inr (.inl nb)))]) [2, 0, 1] (by decide) rfl
          have e_83 : 0 ≤ (nc : Int32).toInt ∧ (nc : Int32).toInt ≤ nc.toInt + 1 := by
            have k_84 : (0 : Int32).toInt = 0 := by decide
            have q_85 := i_eq c_1
            have q_86 := i_ne c_45
            have q_87 := i_eq c_47
            have q_88 := i_ne c_49
            try generalize Int32.toInt r_46.1 = z0 at *
            try generalize Int32.toInt r_48 = z1 at *
            try generalize Int32.toInt n0 = z2 at *
            try generalize Int32.toInt nc = z3 at *
            try generalize Int32.toInt (0 : Int32) = z4 at *
            omega
          subst hR
          exact W.vret hx hb hr (fun t ht hW => ⟨⟨(), rfl, e_83, by rw [ht]; exact hP, hD⟩, hS.F ht⟩) hS.2.2 dX2_takeDigit_64
      · rw [if_neg c_47] at hR
        have e_89 : 0 ≤ (nc : Int32).toInt ∧ (nc : Int32).toInt ≤ nc.toInt + 1 := by
          have k_90 : (0 : Int32).toInt = 0 := by decide
          have q_91 := i_eq c_1
          have q_92 := i_ne c_45
          have q_93 := i_ne c_47
          try generalize Int32.toInt r_46.1 = z0 at *
          try generalize Int32.toInt n0 = z1 at *
          try generalize Int32.toInt nc = z2 at *
          try generalize Int32.toInt (0 : Int32) = z3 at *
          omega
        subst hR
        exact W.vret hx hb hr (fun t ht hW => ⟨⟨(), rfl, e_89, by rw [ht]; exact hP, hD⟩, hS.F ht⟩) hS.2.2 dX2_takeDigit_41
    · rw [if_pos c_45] at hR
      refine lv_aload_n hx hb dX2_takeDigit_17 rfl (lv_at hl 0 rfl) ?_
      refine lv_iload_n hx hb dX2_takeDigit_18 rfl (lv_at hl 2 rfl) ?_
      refine va_put (D := (dC, dI)) (ci := 2) (v := .int y) (ty := .int) (C := RX2) (T := TX2) (N := 11) hx hb hts inc_X2_takeDigit_2 tyX2 tyX2_ok nmX2 hown hG.1 hP hD hS 0 rfl rfl 6 (by decide) (hts (.fieldLink RX2 79 "MappingDesk$Reader" "segmentStart" "I") (by decide +kernel)) (fun _ h9 => h9) rfl (by decide +kernel) rfl rfl (Nat.le_of_ble_eq_true rfl) dX2_takeDigit_19 (fun H locs hP hD hS => ?_)
      have hP : va_P (dC, dI) vwCl [(h0, .inr (2, [.ref r0, .ref r1, .ref r2, .ref r3, .ref r4, .int nc, .int y, .int ib, .int li, .int ff, .int fp])), (r0, .inr (1, [.int n0, .int n1, .long n2, .int n3, .int n4])), (r1, .inl (cJ, 5, .inr (.inl nb)))] H := hP
      have hD : va_D A [(h0, .inr (2, [.ref r0, .ref r1, .ref r2, .ref r3, .ref r4, .int nc, .int y, .int ib, .int li, .int ff, .int fp])), (r0, .inr (1, [.int n0, .int n1, .long n2, .int n3, .int n4])), (r1, .inl (cJ, 5, .inr (.inl nb)))] := hD
      refine lv_aload_n hx hb dX2_takeDigit_22 rfl (lv_at hl 0 rfl) ?_
      refine va_get (D := (dC, dI)) (ci := 2) (v := .ref r0) (C := RX2) (T := TX2) (N := 11) hx hb hts inc_X2_takeDigit_2 hown hG.1 hP 0 rfl rfl 0 (by decide) (hts (.fieldLink RX2 12 "MappingDesk$Reader" "number" "LMappingDesk$NumberTaker;") (by decide +kernel)) (fun _ h9 => h9) rfl dX2_takeDigit_23 ?_
      refine lv_iload_n hx hb dX2_takeDigit_26 rfl (lv_at hl 1 rfl) ?_
      refine lv_iload_n hx hb dX2_takeDigit_27 rfl (lv_at hl 2 rfl) ?_
      have hPc := hP.sub (ws' := [(r0, .inr (1, [.int n0, .int n1, .long n2, .int n3, .int n4]))]) [1] rfl
      have hDc := hD.sub (ws' := [(r0, .inr (1, [.int n0, .int n1, .long n2, .int n3, .int n4]))]) [1] (by decide) rfl
      have hFc := va_free (wc := [(r0, .inr (1, [.int n0, .int n1, .long n2, .int n3, .int n4]))]) hD hS hA [1] rfl
      refine va_callv (va_runVN (C := RX1) (As := [.int x, .int y]) (rest := []) ⟨hx, hb, hml, hown, hts⟩ (c_X1_take l dC dI cB cC cI cJ H.size r0 n0 n1 n2 n3 n4 x y ) ⟨va_cnB 2 hts gX2_takeDigit_X1_take_n114 rfl rfl rfl (hG.nm (A := #[]) (w := .methodLinkNest RX2 114 yX1_take "MappingDesk") (by decide +kernel)) (hts (.initialized RX1) (by decide +kernel)) (by decide +kernel) ⟨(Nat.le_of_ble_eq_true rfl), (Nat.le_of_ble_eq_true rfl)⟩, hts (.instanceMethod yX1_take) (by decide +kernel), hts (.selects RX1 yX1_take yX1_take) (by decide +kernel)⟩ ⟨cP_blind, va_recv hG.1 hPc (ci := 1) (q0 := 0) rfl rfl, cP_pre hPc hG hDc⟩ rfl rfl hl.1 rfl (lv_room (Nat.le_of_ble_eq_true rfl)) dX2_takeDigit_28 ⟨Nat.le_of_ble_eq_true rfl, Nat.le_of_ble_eq_true rfl⟩) hS (fun q _ h => hFc q h) hFc (fun u t H1 locs ht hvm hw hB hz1 hk1 hS => ?_)
      obtain ⟨hP1, hD1⟩ := hB
      rw [ht] at hP1
      generalize hr_94 : fX1_take n0 n1 n2 n3 n4 x y = r_94 at hP1 hD1
      rw [bnd_eq hr_94] at hR
      obtain ⟨hP, hD⟩ := va_join (wr := [(h0, .inr (2, [.ref r0, .ref r1, .ref r2, .ref r3, .ref r4, .int nc, .int y, .int ib, .int li, .int ff, .int fp])), (r1, .inl (cJ, 5, .inr (.inl nb)))]) (w1 := [(r0, .inr (1, [.int r_94.1, .int r_94.2.1, .long r_94.2.2.1, .int r_94.2.2.2.1, .int r_94.2.2.2.2]))]) hP hD [1] [0, 2] rfl rfl (by decide) (by decide) hk1 hFc hP1 hD1
      generalize H1 = H at hP hS ⊢
      have hP := hP.sub (ws' := [(h0, .inr (2, [.ref r0, .ref r1, .ref r2, .ref r3, .ref r4, .int nc, .int y, .int ib, .int li, .int ff, .int fp])), (r0, .inr (1, [.int r_94.1, .int r_94.2.1, .long r_94.2.2.1, .int r_94.2.2.2.1, .int r_94.2.2.2.2])), (r1, .inl (cJ, 5, .inr (.inl nb)))]) [0, 2, 1] rfl
      have hD := hD.sub (ws' := [(h0, .inr (2, [.ref r0, .ref r1, .ref r2, .ref r3, .ref r4, .int nc, .int y, .int ib, .int li, .int ff, .int fp])), (r0, .inr (1, [.int r_94.1, .int r_94.2.1, .long r_94.2.2.1, .int r_94.2.2.2.1, .int r_94.2.2.2.2])), (r1, .inl (cJ, 5, .inr (.inl nb)))]) [0, 2, 1] (by decide) rfl
      refine lv_aload_n hx hb dX2_takeDigit_31 rfl (lv_at hl 0 rfl) ?_
      refine va_get (D := (dC, dI)) (ci := 2) (v := .ref r0) (C := RX2) (T := TX2) (N := 11) hx hb hts inc_X2_takeDigit_2 hown hG.1 hP 0 rfl rfl 0 (by decide) (hts (.fieldLink RX2 12 "MappingDesk$Reader" "number" "LMappingDesk$NumberTaker;") (by decide +kernel)) (fun _ h9 => h9) rfl dX2_takeDigit_32 ?_
      refine va_getN (D := (dC, dI)) (ci := 1) (v := .int r_94.1) (C := RX1) (T := TX1) (N := 5) hx hb hts inc_X2_takeDigit_1 hown hG.1 hP 1 rfl rfl 0 (by decide) (hG.nf (a := RX2) (i := 111) (b := "MappingDesk$NumberTaker") (n := "isOpen") (d := "Z") (t := "MappingDesk") (by decide +kernel)) (fun _ h9 => h9) rfl dX2_takeDigit_35 ?_
      refine lv_if_eq (tgt := 42) hx hb dX2_takeDigit_38 (by decide) (fun c_95 => ?_) (fun c_95 => ?_)
      · rw [if_pos c_95] at hR
        refine lv_aload_n hx hb dX2_takeDigit_42 rfl (lv_at hl 0 rfl) ?_
        refine va_get (D := (dC, dI)) (ci := 2) (v := .ref r0) (C := RX2) (T := TX2) (N := 11) hx hb hts inc_X2_takeDigit_2 hown hG.1 hP 0 rfl rfl 0 (by decide) (hts (.fieldLink RX2 12 "MappingDesk$Reader" "number" "LMappingDesk$NumberTaker;") (by decide +kernel)) (fun _ h9 => h9) rfl dX2_takeDigit_43 ?_
        have hPc := hP.sub (ws' := [(r0, .inr (1, [.int r_94.1, .int r_94.2.1, .long r_94.2.2.1, .int r_94.2.2.2.1, .int r_94.2.2.2.2]))]) [1] rfl
        have hDc := hD.sub (ws' := [(r0, .inr (1, [.int r_94.1, .int r_94.2.1, .long r_94.2.2.1, .int r_94.2.2.2.1, .int r_94.2.2.2.2]))]) [1] (by decide) rfl
        refine vp_callSi (va_Run.run (va_runVN (C := RX1) (As := []) (rest := []) ⟨hx, hb, hml, hown, hts⟩ (c_X1_isTooLarge l dC dI cB cC cI cJ H.size r0 r_94.1 r_94.2.1 r_94.2.2.1 r_94.2.2.2.1 r_94.2.2.2.2 ) ⟨va_cnB 0 hts gX2_takeDigit_X1_isTooLarge_n117 rfl rfl rfl (hG.nm (A := #[]) (w := .methodLinkNest RX2 117 yX1_isTooLarge "MappingDesk") (by decide +kernel)) (hts (.initialized RX1) (by decide +kernel)) (by decide +kernel) ⟨(Nat.le_of_ble_eq_true rfl), (Nat.le_of_ble_eq_true rfl)⟩, hts (.instanceMethod yX1_isTooLarge) (by decide +kernel), hts (.selects RX1 yX1_isTooLarge yX1_isTooLarge) (by decide +kernel)⟩ ⟨cP_blind, va_recv hG.1 hPc (ci := 1) (q0 := 0) rfl rfl, cP_pre hPc hG hDc⟩ rfl rfl hl.1 rfl (lv_room (Nat.le_of_ble_eq_true rfl)) dX2_takeDigit_46 ⟨Nat.le_of_ble_eq_true rfl, Nat.le_of_ble_eq_true rfl⟩)) (fun r_96 hr_96 => ?_)
        rw [bnd_eq hr_96.symm] at hR
        refine lv_if_eq (tgt := 65) hx hb dX2_takeDigit_49 (by decide) (fun c_97 => ?_) (fun c_97 => ?_)
        · rw [if_pos c_97] at hR
          refine lv_aload_n hx hb dX2_takeDigit_65 rfl (lv_at hl 0 rfl) ?_
          refine va_get (D := (dC, dI)) (ci := 2) (v := .int nc) (C := RX2) (T := TX2) (N := 11) hx hb hts inc_X2_takeDigit_2 hown hG.1 hP 0 rfl rfl 5 (by decide) (hts (.fieldLink RX2 76 "MappingDesk$Reader" "numberCount" "I") (by decide +kernel)) (fun _ h9 => h9) rfl dX2_takeDigit_66 ?_
          refine lv_iconst (v := 5) hx hb dX2_takeDigit_69 (by decide) ?_
          refine lv_icmp_ge (tgt := 89) hx hb dX2_takeDigit_70 (by decide) (fun c_98 => ?_) (fun c_98 => ?_)
          · rw [if_pos c_98] at hR
            refine lv_aload_n hx hb dX2_takeDigit_89 rfl (lv_at hl 0 rfl) ?_
            refine lv_dup hx hb dX2_takeDigit_90 rfl ?_
            refine va_get (D := (dC, dI)) (ci := 2) (v := .int nc) (C := RX2) (T := TX2) (N := 11) hx hb hts inc_X2_takeDigit_2 hown hG.1 hP 0 rfl rfl 5 (by decide) (hts (.fieldLink RX2 76 "MappingDesk$Reader" "numberCount" "I") (by decide +kernel)) (fun _ h9 => h9) rfl dX2_takeDigit_91 ?_
            refine lv_iconst (v := 1) hx hb dX2_takeDigit_94 (by decide) ?_
            refine lv_iadd hx hb dX2_takeDigit_95 ?_
            refine va_put (D := (dC, dI)) (ci := 2) (v := .int (nc + 1)) (ty := .int) (C := RX2) (T := TX2) (N := 11) hx hb hts inc_X2_takeDigit_2 tyX2 tyX2_ok nmX2 hown hG.1 hP hD hS 0 rfl rfl 5 (by decide) (hts (.fieldLink RX2 76 "MappingDesk$Reader" "numberCount" "I") (by decide +kernel)) (fun _ h9 => h9) rfl (by decide +kernel) rfl rfl (Nat.le_of_ble_eq_true rfl) dX2_takeDigit_96 (fun H locs hP hD hS => ?_)
            have hP : va_P (dC, dI) vwCl [(h0, .inr (2, [.ref r0, .ref r1, .ref r2, .ref r3, .ref r4, .int (nc + 1), .int y, .int ib, .int li, .int ff, .int fp])), (r0, .inr (1, [.int r_94.1, .int r_94.2.1, .long r_94.2.2.1, .int r_94.2.2.2.1, .int r_94.2.2.2.2])), (r1, .inl (cJ, 5, .inr (.inl nb)))] H := hP
            have hD : va_D A [(h0, .inr (2, [.ref r0, .ref r1, .ref r2, .ref r3, .ref r4, .int (nc + 1), .int y, .int ib, .int li, .int ff, .int fp])), (r0, .inr (1, [.int r_94.1, .int r_94.2.1, .long r_94.2.2.1, .int r_94.2.2.2.1, .int r_94.2.2.2.2])), (r1, .inl (cJ, 5, .inr (.inl nb)))] := hD
            have e_99 : 0 ≤ ((nc + 1) : Int32).toInt ∧ ((nc + 1) : Int32).toInt ≤ nc.toInt + 1 := by
              have k_100 : (0 : Int32).toInt = 0 := by decide
              have q_101 := i_eq c_1
              have q_102 := i_eq c_45
              have q_103 := i_eq c_95
              have q_104 := i_eq c_97
              have k_105 : (5 : Int32).toInt = 5 := by decide
              have q_106 := i_le c_98
              have k_107 : (1 : Int32).toInt = 1 := by decide
              have t_108 := ti_add (a := nc) (b := 1) (by omega) (by omega)
              try generalize Int32.toInt (nc + 1) = z0 at *
              try generalize Int32.toInt r_94.1 = z1 at *
              try generalize Int32.toInt r_96 = z2 at *
              try generalize Int32.toInt n0 = z3 at *
              try generalize Int32.toInt nc = z4 at *
              try generalize Int32.toInt (0 : Int32) = z5 at *
              try generalize Int32.toInt (1 : Int32) = z6 at *
              try generalize Int32.toInt (5 : Int32) = z7 at *
              omega
            subst hR
            exact W.vret hx hb hr (fun t ht hW => ⟨⟨(), rfl, e_99, by rw [ht]; exact hP, hD⟩, hS.F ht⟩) hS.2.2 dX2_takeDigit_99
          · rw [if_neg c_98] at hR
            refine lv_aload_n hx hb dX2_takeDigit_73 rfl (lv_at hl 0 rfl) ?_
            refine va_get (D := (dC, dI)) (ci := 2) (v := .ref r1) (C := RX2) (T := TX2) (N := 11) hx hb hts inc_X2_takeDigit_2 hown hG.1 hP 0 rfl rfl 1 (by decide) (hts (.fieldLink RX2 18 "MappingDesk$Reader" "numbers" "[J") (by decide +kernel)) (fun _ h9 => h9) rfl dX2_takeDigit_74 ?_
            refine lv_aload_n hx hb dX2_takeDigit_77 rfl (lv_at hl 0 rfl) ?_
            refine va_get (D := (dC, dI)) (ci := 2) (v := .int nc) (C := RX2) (T := TX2) (N := 11) hx hb hts inc_X2_takeDigit_2 hown hG.1 hP 0 rfl rfl 5 (by decide) (hts (.fieldLink RX2 76 "MappingDesk$Reader" "numberCount" "I") (by decide +kernel)) (fun _ h9 => h9) rfl dX2_takeDigit_78 ?_
            refine lv_aload_n hx hb dX2_takeDigit_81 rfl (lv_at hl 0 rfl) ?_
            refine va_get (D := (dC, dI)) (ci := 2) (v := .ref r0) (C := RX2) (T := TX2) (N := 11) hx hb hts inc_X2_takeDigit_2 hown hG.1 hP 0 rfl rfl 0 (by decide) (hts (.fieldLink RX2 12 "MappingDesk$Reader" "number" "LMappingDesk$NumberTaker;") (by decide +kernel)) (fun _ h9 => h9) rfl dX2_takeDigit_82 ?_
            have hPc := hP.sub (ws' := [(r0, .inr (1, [.int r_94.1, .int r_94.2.1, .long r_94.2.2.1, .int r_94.2.2.2.1, .int r_94.2.2.2.2]))]) [1] rfl
            have hDc := hD.sub (ws' := [(r0, .inr (1, [.int r_94.1, .int r_94.2.1, .long r_94.2.2.1, .int r_94.2.2.2.1, .int r_94.2.2.2.2]))]) [1] (by decide) rfl
            refine vp_callSl (va_Run.run (va_runVN (C := RX1) (As := []) (rest := [.int nc, .ref r1]) ⟨hx, hb, hml, hown, hts⟩ (c_X1_value l dC dI cB cC cI cJ H.size r0 r_94.1 r_94.2.1 r_94.2.2.1 r_94.2.2.2.1 r_94.2.2.2.2 ) ⟨va_cnB 0 hts gX2_takeDigit_X1_value_n123 rfl rfl rfl (hG.nm (A := #[]) (w := .methodLinkNest RX2 123 yX1_value "MappingDesk") (by decide +kernel)) (hts (.initialized RX1) (by decide +kernel)) (by decide +kernel) ⟨(Nat.le_of_ble_eq_true rfl), (Nat.le_of_ble_eq_true rfl)⟩, hts (.instanceMethod yX1_value) (by decide +kernel), hts (.selects RX1 yX1_value yX1_value) (by decide +kernel)⟩ ⟨cP_blind, va_recv hG.1 hPc (ci := 1) (q0 := 0) rfl rfl, cP_pre hPc hG hDc⟩ rfl rfl hl.1 rfl (lv_room (Nat.le_of_ble_eq_true rfl)) dX2_takeDigit_85 ⟨Nat.le_of_ble_eq_true rfl, Nat.le_of_ble_eq_true rfl⟩)) (fun r_109 hr_109 => ?_)
            rw [bnd_eq hr_109.symm] at hR
            have b_110 : vp_in nc 5 := by
              have k_111 : (0 : Int32).toInt = 0 := by decide
              have q_112 := i_eq c_1
              have q_113 := i_eq c_45
              have q_114 := i_eq c_95
              have q_115 := i_eq c_97
              have k_116 : (5 : Int32).toInt = 5 := by decide
              have q_117 := i_nle c_98
              refine vin ?_ ?_
              all_goals (try generalize Int32.toInt r_94.1 = z0 at *; try generalize Int32.toInt r_96 = z1 at *; try generalize Int32.toInt n0 = z2 at *; try generalize Int32.toInt nc = z3 at *; try generalize Int32.toInt (0 : Int32) = z4 at *; try generalize Int32.toInt (5 : Int32) = z5 at *; omega)
            refine va_last hx hb hG.1 hP hD hS 2 3 rfl rfl b_110 dX2_takeDigit_88 (fun H locs hP hD hS => ?_)
            have hP : va_P (dC, dI) vwCl [(h0, .inr (2, [.ref r0, .ref r1, .ref r2, .ref r3, .ref r4, .int nc, .int y, .int ib, .int li, .int ff, .int fp])), (r0, .inr (1, [.int r_94.1, .int r_94.2.1, .long r_94.2.2.1, .int r_94.2.2.2.1, .int r_94.2.2.2.2])), (r1, .inl (cJ, 5, .inr (.inl (vp_updL nb nc.toNatClampNeg r_109))))] H := hP
            have hD : va_D A [(h0, .inr (2, [.ref r0, .ref r1, .ref r2, .ref r3, .ref r4, .int nc, .int y, .int ib, .int li, .int ff, .int fp])), (r0, .inr (1, [.int r_94.1, .int r_94.2.1, .long r_94.2.2.1, .int r_94.2.2.2.1, .int r_94.2.2.2.2])), (r1, .inl (cJ, 5, .inr (.inl (vp_updL nb nc.toNatClampNeg r_109))))] := hD
            refine lv_aload_n hx hb dX2_takeDigit_89 rfl (lv_at hl 0 rfl) ?_
            refine lv_dup hx hb dX2_takeDigit_90 rfl ?_
            refine va_get (D := (dC, dI)) (ci := 2) (v := .int nc) (C := RX2) (T := TX2) (N := 11) hx hb hts inc_X2_takeDigit_2 hown hG.1 hP 0 rfl rfl 5 (by decide) (hts (.fieldLink RX2 76 "MappingDesk$Reader" "numberCount" "I") (by decide +kernel)) (fun _ h9 => h9) rfl dX2_takeDigit_91 ?_
            refine lv_iconst (v := 1) hx hb dX2_takeDigit_94 (by decide) ?_
            refine lv_iadd hx hb dX2_takeDigit_95 ?_
            refine va_put (D := (dC, dI)) (ci := 2) (v := .int (nc + 1)) (ty := .int) (C := RX2) (T := TX2) (N := 11) hx hb hts inc_X2_takeDigit_2 tyX2 tyX2_ok nmX2 hown hG.1 hP hD hS 0 rfl rfl 5 (by decide) (hts (.fieldLink RX2 76 "MappingDesk$Reader" "numberCount" "I") (by decide +kernel)) (fun _ h9 => h9) rfl (by decide +kernel) rfl rfl (Nat.le_of_ble_eq_true rfl) dX2_takeDigit_96 (fun H locs hP hD hS => ?_)
            have hP : va_P (dC, dI) vwCl [(h0, .inr (2, [.ref r0, .ref r1, .ref r2, .ref r3, .ref r4, .int (nc + 1), .int y, .int ib, .int li, .int ff, .int fp])), (r0, .inr (1, [.int r_94.1, .int r_94.2.1, .long r_94.2.2.1, .int r_94.2.2.2.1, .int r_94.2.2.2.2])), (r1, .inl (cJ, 5, .inr (.inl (vp_updL nb nc.toNatClampNeg r_109))))] H := hP
            have hD : va_D A [(h0, .inr (2, [.ref r0, .ref r1, .ref r2, .ref r3, .ref r4, .int (nc + 1), .int y, .int ib, .int li, .int ff, .int fp])), (r0, .inr (1, [.int r_94.1, .int r_94.2.1, .long r_94.2.2.1, .int r_94.2.2.2.1, .int r_94.2.2.2.2])), (r1, .inl (cJ, 5, .inr (.inl (vp_updL nb nc.toNatClampNeg r_109))))] := hD
            have e_120 : 0 ≤ ((nc + 1) : Int32).toInt ∧ ((nc + 1) : Int32).toInt ≤ nc.toInt + 1 := by
              have k_121 : (0 : Int32).toInt = 0 := by decide
              have q_122 := i_eq c_1
              have q_123 := i_eq c_45
              have q_124 := i_eq c_95
              have q_125 := i_eq c_97
              have k_126 : (5 : Int32).toInt = 5 := by decide
              have q_127 := i_nle c_98
              have k_128 : (1 : Int32).toInt = 1 := by decide
              have t_129 := ti_add (a := nc) (b := 1) (by omega) (by omega)
              try generalize Int32.toInt (nc + 1) = z0 at *
              try generalize Int32.toInt r_94.1 = z1 at *
              try generalize Int32.toInt r_96 = z2 at *
              try generalize Int32.toInt n0 = z3 at *
              try generalize Int32.toInt nc = z4 at *
              try generalize Int32.toInt (0 : Int32) = z5 at *
              try generalize Int32.toInt (1 : Int32) = z6 at *
              try generalize Int32.toInt (5 : Int32) = z7 at *
              omega
            subst hR
            exact W.vret hx hb hr (fun t ht hW => ⟨⟨(), rfl, e_120, by rw [ht]; exact hP, hD⟩, hS.F ht⟩) hS.2.2 dX2_takeDigit_99
        · rw [if_neg c_97] at hR
          refine lv_aload_n hx hb dX2_takeDigit_52 rfl (lv_at hl 0 rfl) ?_
          refine lv_iconst (v := 2) hx hb dX2_takeDigit_53 (by decide) ?_
          refine lv_aload_n hx hb dX2_takeDigit_54 rfl (lv_at hl 0 rfl) ?_
          refine va_get (D := (dC, dI)) (ci := 2) (v := .ref r0) (C := RX2) (T := TX2) (N := 11) hx hb hts inc_X2_takeDigit_2 hown hG.1 hP 0 rfl rfl 0 (by decide) (hts (.fieldLink RX2 12 "MappingDesk$Reader" "number" "LMappingDesk$NumberTaker;") (by decide +kernel)) (fun _ h9 => h9) rfl dX2_takeDigit_55 ?_
          refine va_getN (D := (dC, dI)) (ci := 1) (v := .int r_94.2.1) (C := RX1) (T := TX1) (N := 5) hx hb hts inc_X2_takeDigit_1 hown hG.1 hP 1 rfl rfl 1 (by decide) (hG.nf (a := RX2) (i := 121) (b := "MappingDesk$NumberTaker") (n := "start") (d := "I") (t := "MappingDesk") (by decide +kernel)) (fun _ h9 => h9) rfl dX2_takeDigit_58 ?_
          have hPc := hP.sub (ws' := [(h0, .inr (2, [.ref r0, .ref r1, .ref r2, .ref r3, .ref r4, .int nc, .int y, .int ib, .int li, .int ff, .int fp]))]) [0] rfl
          have hDc := hD.sub (ws' := [(h0, .inr (2, [.ref r0, .ref r1, .ref r2, .ref r3, .ref r4, .int nc, .int y, .int ib, .int li, .int ff, .int fp]))]) [0] (by decide) rfl
          have hFc := va_free (wc := [(h0, .inr (2, [.ref r0, .ref r1, .ref r2, .ref r3, .ref r4, .int nc, .int y, .int ib, .int li, .int ff, .int fp]))]) hD hS hA [0] rfl
          refine va_callv (va_runV (As := [.int 2, .int r_94.2.1]) (rest := []) ⟨hx, hb, hml, hown, hts⟩ (c_X2_refuse l dC dI cB cC cI cJ H.size h0 r0 r1 r2 r3 r4 nc y ib li ff fp 2 r_94.2.1 ) (cwV 2 hts gX2_takeDigit_X2_refuse rfl rfl rfl (by decide +kernel) ⟨(Nat.le_of_ble_eq_true rfl), (Nat.le_of_ble_eq_true rfl)⟩) ⟨cP_blind, va_recv hG.1 hPc (ci := 2) (q0 := 0) rfl rfl, cP_pre hPc hG hDc⟩ rfl rfl hl.1 rfl (lv_room (Nat.le_of_ble_eq_true rfl)) dX2_takeDigit_61 ⟨Nat.le_of_ble_eq_true rfl, Nat.le_of_ble_eq_true rfl⟩) hS (fun q _ h => hFc q h) hFc (fun u t H1 locs ht hvm hw hB hz1 hk1 hS => ?_)
          obtain ⟨hP1, hD1⟩ := hB
          rw [ht] at hP1
          generalize hr_130 : fX2_refuse nc y ib li ff fp 2 r_94.2.1 = r_130 at hP1 hD1
          rw [bnd_eq hr_130] at hR
          obtain ⟨hP, hD⟩ := va_join (wr := [(r0, .inr (1, [.int r_94.1, .int r_94.2.1, .long r_94.2.2.1, .int r_94.2.2.2.1, .int r_94.2.2.2.2])), (r1, .inl (cJ, 5, .inr (.inl nb)))]) (w1 := [(h0, .inr (2, [.ref r0, .ref r1, .ref r2, .ref r3, .ref r4, .int nc, .int y, .int ib, .int li, .int r_130.1, .int r_130.2]))]) hP hD [0] [1, 2] rfl rfl (by decide) (by decide) hk1 hFc hP1 hD1
          generalize H1 = H at hP hS ⊢
          have hP := hP.sub (ws' := [(h0, .inr (2, [.ref r0, .ref r1, .ref r2, .ref r3, .ref r4, .int nc, .int y, .int ib, .int li, .int r_130.1, .int r_130.2])), (r0, .inr (1, [.int r_94.1, .int r_94.2.1, .long r_94.2.2.1, .int r_94.2.2.2.1, .int r_94.2.2.2.2])), (r1, .inl (cJ, 5, .inr (.inl nb)))]) [2, 0, 1] rfl
          have hD := hD.sub (ws' := [(h0, .inr (2, [.ref r0, .ref r1, .ref r2, .ref r3, .ref r4, .int nc, .int y, .int ib, .int li, .int r_130.1, .int r_130.2])), (r0, .inr (1, [.int r_94.1, .int r_94.2.1, .long r_94.2.2.1, .int r_94.2.2.2.1, .int r_94.2.2.2.2])), (r1, .inl (cJ, 5, .inr (.inl nb)))]) [2, 0, 1] (by decide) rfl
          have e_131 : 0 ≤ (nc : Int32).toInt ∧ (nc : Int32).toInt ≤ nc.toInt + 1 := by
            have k_132 : (0 : Int32).toInt = 0 := by decide
            have q_133 := i_eq c_1
            have q_134 := i_eq c_45
            have q_135 := i_eq c_95
            have q_136 := i_ne c_97
            try generalize Int32.toInt r_94.1 = z0 at *
            try generalize Int32.toInt r_96 = z1 at *
            try generalize Int32.toInt n0 = z2 at *
            try generalize Int32.toInt nc = z3 at *
            try generalize Int32.toInt (0 : Int32) = z4 at *
            omega
          subst hR
          exact W.vret hx hb hr (fun t ht hW => ⟨⟨(), rfl, e_131, by rw [ht]; exact hP, hD⟩, hS.F ht⟩) hS.2.2 dX2_takeDigit_64
      · rw [if_neg c_95] at hR
        have e_137 : 0 ≤ (nc : Int32).toInt ∧ (nc : Int32).toInt ≤ nc.toInt + 1 := by
          have k_138 : (0 : Int32).toInt = 0 := by decide
          have q_139 := i_eq c_1
          have q_140 := i_eq c_45
          have q_141 := i_ne c_95
          try generalize Int32.toInt r_94.1 = z0 at *
          try generalize Int32.toInt n0 = z1 at *
          try generalize Int32.toInt nc = z2 at *
          try generalize Int32.toInt (0 : Int32) = z3 at *
          omega
        subst hR
        exact W.vret hx hb hr (fun t ht hW => ⟨⟨(), rfl, e_137, by rw [ht]; exact hP, hD⟩, hS.F ht⟩) hS.2.2 dX2_takeDigit_41

def fX2_addUp (nc ss ib li ff fp : Int32) (nb : Nat → Int64) (a0 a1 a2 a3 a4 : Int32) (g0 g1 g2 g3 g4 g5 : Int32) : Int32 × Int32 × Int32 × Int32 × Int32 × Int32 × Int32 :=
  if (lg_cmp (nb (0 : Int32).toNatClampNeg) 0) < 0 then
    (0, g0, g1, g2, g3, g4, g5)
  else
    if (lg_cmp (((a0 : Int32).toInt64) + (nb (0 : Int32).toNatClampNeg)) 999999) ≤ 0 then
      bnd (fX3_standAt g0 g1 g2 g3 g4 g5 li (((((a0 : Int32).toInt64) + (nb (0 : Int32).toNatClampNeg)) : Int64).toInt32)) fun r_11 =>
      if 4 ≤ nc then
        if 5 ≤ nc then
          bnd (fX8_isWithin (((a1 : Int32).toInt64) + (nb (1 : Int32).toNatClampNeg)) 99) fun r_39 =>
          if r_39 = 0 then
            (0, r_11.1, r_11.2.1, r_11.2.2.1, r_11.2.2.2.1, r_11.2.2.2.2.1, r_11.2.2.2.2.2)
          else
            bnd (fX8_isWithin (((a2 : Int32).toInt64) + (nb (2 : Int32).toNatClampNeg)) 999999) fun r_41 =>
            if r_41 = 0 then
              (0, r_11.1, r_11.2.1, r_11.2.2.1, r_11.2.2.2.1, r_11.2.2.2.2.1, r_11.2.2.2.2.2)
            else
              bnd (fX8_isWithin (((a3 : Int32).toInt64) + (nb (3 : Int32).toNatClampNeg)) 999999) fun r_43 =>
              if r_43 = 0 then
                (0, r_11.1, r_11.2.1, r_11.2.2.1, r_11.2.2.2.1, r_11.2.2.2.2.1, r_11.2.2.2.2.2)
              else
                bnd (fX8_isWithin (((a4 : Int32).toInt64) + (nb (4 : Int32).toNatClampNeg)) 99) fun r_45 =>
                if r_45 = 0 then
                  (0, r_11.1, r_11.2.1, r_11.2.2.1, r_11.2.2.2.1, r_11.2.2.2.2.1, r_11.2.2.2.2.2)
                else
                  bnd (fX3_tell r_11.1 r_11.2.1 r_11.2.2.1 r_11.2.2.2.1 r_11.2.2.2.2.1 r_11.2.2.2.2.2 (((((a1 : Int32).toInt64) + (nb (1 : Int32).toNatClampNeg)) : Int64).toInt32) (((((a2 : Int32).toInt64) + (nb (2 : Int32).toNatClampNeg)) : Int64).toInt32) (((((a3 : Int32).toInt64) + (nb (3 : Int32).toNatClampNeg)) : Int64).toInt32) (((((a4 : Int32).toInt64) + (nb (4 : Int32).toNatClampNeg)) : Int64).toInt32)) fun r_48 =>
                  (1, r_11.1, r_11.2.1, r_48.1, r_48.2.1, r_48.2.2.1, r_48.2.2.2)
        else
          bnd (fX8_isWithin (((a1 : Int32).toInt64) + (nb (1 : Int32).toNatClampNeg)) 99) fun r_49 =>
          if r_49 = 0 then
            (0, r_11.1, r_11.2.1, r_11.2.2.1, r_11.2.2.2.1, r_11.2.2.2.2.1, r_11.2.2.2.2.2)
          else
            bnd (fX8_isWithin (((a2 : Int32).toInt64) + (nb (2 : Int32).toNatClampNeg)) 999999) fun r_51 =>
            if r_51 = 0 then
              (0, r_11.1, r_11.2.1, r_11.2.2.1, r_11.2.2.2.1, r_11.2.2.2.2.1, r_11.2.2.2.2.2)
            else
              bnd (fX8_isWithin (((a3 : Int32).toInt64) + (nb (3 : Int32).toNatClampNeg)) 999999) fun r_53 =>
              if r_53 = 0 then
                (0, r_11.1, r_11.2.1, r_11.2.2.1, r_11.2.2.2.1, r_11.2.2.2.2.1, r_11.2.2.2.2.2)
              else
                bnd (fX8_isWithin 0 99) fun r_55 =>
                if r_55 = 0 then
                  (0, r_11.1, r_11.2.1, r_11.2.2.1, r_11.2.2.2.1, r_11.2.2.2.2.1, r_11.2.2.2.2.2)
                else
                  bnd (fX3_tell r_11.1 r_11.2.1 r_11.2.2.1 r_11.2.2.2.1 r_11.2.2.2.2.1 r_11.2.2.2.2.2 (((((a1 : Int32).toInt64) + (nb (1 : Int32).toNatClampNeg)) : Int64).toInt32) (((((a2 : Int32).toInt64) + (nb (2 : Int32).toNatClampNeg)) : Int64).toInt32) (((((a3 : Int32).toInt64) + (nb (3 : Int32).toNatClampNeg)) : Int64).toInt32) (-1)) fun r_58 =>
                  (1, r_11.1, r_11.2.1, r_58.1, r_58.2.1, r_58.2.2.1, r_58.2.2.2)
      else
        (1, r_11.1, r_11.2.1, r_11.2.2.1, r_11.2.2.2.1, r_11.2.2.2.2.1, r_11.2.2.2.2.2)
    else
      (0, g0, g1, g2, g3, g4, g5)
theorem inc_X2_addUp_2 : ∀ w ∈ u_ws RX2 TX2 11, w ∈ wsX2_addUp := by decide +kernel
theorem inc_X2_addUp_0 : ∀ w ∈ u_ws RX0 TX0 5, w ∈ wsX2_addUp := by decide +kernel
set_option maxHeartbeats 4000000 in
set_option maxRecDepth 100000 in
theorem c_X2_addUp (l : Launch) (dC : Nat → ClassId) (dI : Nat → Nat → Nat) (cB cC cI cJ : ClassId) (sz : Nat) (h0 r0 r1 r2 r3 r4 : Nat) (nc ss ib li ff fp : Int32) (nb : Nat → Int64) (a0 a1 a2 a3 a4 : Int32) (g0 g1 g2 g3 g4 g5 : Int32) : Met l yX2_addUp wsX2_addUp ({ frames := 1, cells := 0, slots := 0, locals := 24 } : Room) (cP dC dI cB cC cI cJ [.ref h0] sz [(h0, .inr (2, [.ref r0, .ref r1, .ref r2, .ref r3, .ref r4, .int nc, .int ss, .int ib, .int li, .int ff, .int fp])), (r1, .inl (cJ, 5, .inr (.inl nb))), (r2, .inr (0, [.int a0, .int a1, .int a2, .int a3, .int a4])), (r3, .inr (3, [.int g0, .int g1, .int g2, .int g3, .int g4, .int g5]))]) (va_Qi (fun r _ => r = (fX2_addUp nc ss ib li ff fp nb a0 a1 a2 a3 a4 g0 g1 g2 g3 g4 g5).1) (cE dC dI (va_A [(h0, .inr (2, [.ref r0, .ref r1, .ref r2, .ref r3, .ref r4, .int nc, .int ss, .int ib, .int li, .int ff, .int fp])), (r1, .inl (cJ, 5, .inr (.inl nb))), (r2, .inr (0, [.int a0, .int a1, .int a2, .int a3, .int a4])), (r3, .inr (3, [.int g0, .int g1, .int g2, .int g3, .int g4, .int g5]))] sz) [(h0, .inr (2, [.ref r0, .ref r1, .ref r2, .ref r3, .ref r4, .int nc, .int ss, .int ib, .int li, .int ff, .int fp])), (r1, .inl (cJ, 5, .inr (.inl nb))), (r2, .inr (0, [.int a0, .int a1, .int a2, .int a3, .int a4])), (r3, .inr (3, [.int (fX2_addUp nc ss ib li ff fp nb a0 a1 a2 a3 a4 g0 g1 g2 g3 g4 g5).2.1, .int (fX2_addUp nc ss ib li ff fp nb a0 a1 a2 a3 a4 g0 g1 g2 g3 g4 g5).2.2.1, .int (fX2_addUp nc ss ib li ff fp nb a0 a1 a2 a3 a4 g0 g1 g2 g3 g4 g5).2.2.2.1, .int (fX2_addUp nc ss ib li ff fp nb a0 a1 a2 a3 a4 g0 g1 g2 g3 g4 g5).2.2.2.2.1, .int (fX2_addUp nc ss ib li ff fp nb a0 a1 a2 a3 a4 g0 g1 g2 g3 g4 g5).2.2.2.2.2.1, .int (fX2_addUp nc ss ib li ff fp nb a0 a1 a2 a3 a4 g0 g1 g2 g3 g4 g5).2.2.2.2.2.2]))]) (va_A [(h0, .inr (2, [.ref r0, .ref r1, .ref r2, .ref r3, .ref r4, .int nc, .int ss, .int ib, .int li, .int ff, .int fp])), (r1, .inl (cJ, 5, .inr (.inl nb))), (r2, .inr (0, [.int a0, .int a1, .int a2, .int a3, .int a4])), (r3, .inr (3, [.int g0, .int g1, .int g2, .int g3, .int g4, .int g5]))] sz)) 0 0 (va_A [(h0, .inr (2, [.ref r0, .ref r1, .ref r2, .ref r3, .ref r4, .int nc, .int ss, .int ib, .int li, .int ff, .int fp])), (r1, .inl (cJ, 5, .inr (.inl nb))), (r2, .inr (0, [.int a0, .int a1, .int a2, .int a3, .int a4])), (r3, .inr (3, [.int g0, .int g1, .int g2, .int g3, .int g4, .int g5]))] sz) := by
  refine Met.ofW (cc := cX2_addUp) (maxL := 11) (ret := (some .boolean)) (by decide) rfl ?_
  intro p e s m args below meth c s₁ B hml hv
  obtain ⟨rfl, hsz, hP, hG, hD0⟩ := hv
  have hx := B.exec
  have hb := B.bytes
  have hr := B.returns
  have hts := atoms_spec (ws := wsX2_addUp) B.pre
  have hown : s.vm.findClass RX2 = some m.cls := findClass_of_methodNamed B.named
  have hlocks := B.notSynchronized
  subst hsz
  have hD := hD0.self (sz := s.heap.size)
  generalize hAe : va_A [(h0, .inr (2, [.ref r0, .ref r1, .ref r2, .ref r3, .ref r4, .int nc, .int ss, .int ib, .int li, .int ff, .int fp])), (r1, .inl (cJ, 5, .inr (.inl nb))), (r2, .inr (0, [.int a0, .int a1, .int a2, .int a3, .int a4])), (r3, .inr (3, [.int g0, .int g1, .int g2, .int g3, .int g4, .int g5]))] s.heap.size = A at hD ⊢
  have hA : ∀ q : Nat, s.heap.size ≤ q → A q := fun q h => by rw [← hAe]; exact Or.inr h
  obtain ⟨H, hH⟩ : ∃ H : Heap, H = s.heap := ⟨_, rfl⟩
  have hS : va_S A s.heap H [] := by rw [hH]; exact va_S.rf
  rw [← hH] at hP ⊢
  generalize hR : fX2_addUp nc ss ib li ff fp nb a0 a1 a2 a3 a4 g0 g1 g2 g3 g4 g5 = R
  unfold fX2_addUp at hR
  have hl := lv_entry ([.ref h0]) (n := 11) (Nat.le_of_ble_eq_true rfl)
  rw [lg_entry_eq]
  generalize (lg_sl ([.ref h0]) ++ List.replicate (11 - (lg_sl ([.ref h0])).length) Slot.unset).toArray = ls at hl ⊢
  have hl : lv_has ls 11 [(0, .ref h0)] := hl
  refine lv_aload_n hx hb dX2_addUp_0 rfl (lv_at hl 0 rfl) ?_
  refine va_get (D := (dC, dI)) (ci := 2) (v := .ref r2) (C := RX2) (T := TX2) (N := 11) hx hb hts inc_X2_addUp_2 hown hG.1 hP 0 rfl rfl 2 (by decide) (hts (.fieldLink RX2 25 "MappingDesk$Reader" "ahead" "LMappingDesk$Ahead;") (by decide +kernel)) (fun _ h9 => h9) rfl dX2_addUp_1 ?_
  refine va_getN (D := (dC, dI)) (ci := 0) (v := .int a0) (C := RX0) (T := TX0) (N := 5) hx hb hts inc_X2_addUp_0 hown hG.1 hP 2 rfl rfl 0 (by decide) (hG.nf (a := RX2) (i := 145) (b := "MappingDesk$Ahead") (n := "column") (d := "I") (t := "MappingDesk") (by decide +kernel)) (fun _ h9 => h9) rfl dX2_addUp_4 ?_
  refine lv_i2l hx hb dX2_addUp_7 rfl ?_
  refine lv_aload_n hx hb dX2_addUp_8 rfl (lv_at hl 0 rfl) ?_
  refine va_get (D := (dC, dI)) (ci := 2) (v := .ref r1) (C := RX2) (T := TX2) (N := 11) hx hb hts inc_X2_addUp_2 hown hG.1 hP 0 rfl rfl 1 (by decide) (hts (.fieldLink RX2 18 "MappingDesk$Reader" "numbers" "[J") (by decide +kernel)) (fun _ h9 => h9) rfl dX2_addUp_9 ?_
  refine lv_iconst (v := 0) hx hb dX2_addUp_12 (by decide) ?_
  have b_1 : vp_in 0 5 := by
    have k_2 : (0 : Int32).toInt = 0 := by decide
    refine vin ?_ ?_
    all_goals (try generalize Int32.toInt (0 : Int32) = z0 at *; omega)
  refine va_lald hx hb hG.1 hP 1 3 rfl rfl b_1 dX2_addUp_13 ?_
  refine lv_ladd hx hb dX2_addUp_14 ?_
  refine lv_lstore_n (lv' := [(1, .long (((a0 : Int32).toInt64) + (nb (0 : Int32).toNatClampNeg))), (0, .ref h0)]) hx hb dX2_addUp_15 rfl hl (by decide) rfl (fun ls hl => ?_)
  refine lv_aload_n hx hb dX2_addUp_16 rfl (lv_at hl 1 rfl) ?_
  refine va_get (D := (dC, dI)) (ci := 2) (v := .ref r1) (C := RX2) (T := TX2) (N := 11) hx hb hts inc_X2_addUp_2 hown hG.1 hP 0 rfl rfl 1 (by decide) (hts (.fieldLink RX2 18 "MappingDesk$Reader" "numbers" "[J") (by decide +kernel)) (fun _ h9 => h9) rfl dX2_addUp_17 ?_
  refine lv_iconst (v := 0) hx hb dX2_addUp_20 (by decide) ?_
  have b_5 : vp_in 0 5 := by
    have k_6 : (0 : Int32).toInt = 0 := by decide
    refine vin ?_ ?_
    all_goals (try generalize Int32.toInt (0 : Int32) = z0 at *; omega)
  refine va_lald hx hb hG.1 hP 1 3 rfl rfl b_5 dX2_addUp_21 ?_
  refine lv_lconst (v := 0) hx hb dX2_addUp_22 (by decide) ?_
  refine W.lcmp hx hb dX2_addUp_23 ?_
  refine lv_if_lt (tgt := 35) hx hb dX2_addUp_24 (by decide) (fun c_9 => ?_) (fun c_9 => ?_)
  · rw [if_pos c_9] at hR
    refine lv_iconst (v := 0) hx hb dX2_addUp_35 (by decide) ?_
    subst hR
    exact W.zret (v := 0) hx hb hr rfl (fun t ht hW => ⟨⟨0, (), rfl, rfl, by rw [ht]; exact hP, hD⟩, hS.F ht⟩) hS.2.2 dX2_addUp_36
  · rw [if_neg c_9] at hR
    refine lv_lload_n hx hb dX2_addUp_27 rfl (lv_at hl 0 rfl) ?_
    refine lv_ldc2 (v := 999999) hx hb hown (hts (.constantLong RX2 148 999999) (by decide +kernel)) dX2_addUp_28 ?_
    refine W.lcmp hx hb dX2_addUp_31 ?_
    refine lv_if_le (tgt := 37) hx hb dX2_addUp_32 (by decide) (fun c_10 => ?_) (fun c_10 => ?_)
    · rw [if_pos c_10] at hR
      refine lv_aload_n hx hb dX2_addUp_37 rfl (lv_at hl 1 rfl) ?_
      refine va_get (D := (dC, dI)) (ci := 2) (v := .ref r3) (C := RX2) (T := TX2) (N := 11) hx hb hts inc_X2_addUp_2 hown hG.1 hP 0 rfl rfl 3 (by decide) (hts (.fieldLink RX2 32 "MappingDesk$Reader" "segment" "LMappingDesk$Segment;") (by decide +kernel)) (fun _ h9 => h9) rfl dX2_addUp_38 ?_
      refine lv_aload_n hx hb dX2_addUp_41 rfl (lv_at hl 1 rfl) ?_
      refine va_get (D := (dC, dI)) (ci := 2) (v := .int li) (C := RX2) (T := TX2) (N := 11) hx hb hts inc_X2_addUp_2 hown hG.1 hP 0 rfl rfl 8 (by decide) (hts (.fieldLink RX2 86 "MappingDesk$Reader" "line" "I") (by decide +kernel)) (fun _ h9 => h9) rfl dX2_addUp_42 ?_
      refine lv_lload_n hx hb dX2_addUp_45 rfl (lv_at hl 0 rfl) ?_
      refine lv_l2i hx hb dX2_addUp_46 rfl ?_
      have hPc := hP.sub (ws' := [(r3, .inr (3, [.int g0, .int g1, .int g2, .int g3, .int g4, .int g5]))]) [3] rfl
      have hDc := hD.sub (ws' := [(r3, .inr (3, [.int g0, .int g1, .int g2, .int g3, .int g4, .int g5]))]) [3] (by decide) rfl
      have hFc := va_free (wc := [(r3, .inr (3, [.int g0, .int g1, .int g2, .int g3, .int g4, .int g5]))]) hD hS hA [3] rfl
      refine va_callv (va_runVN (C := RX3) (As := [.int li, .int (((((a0 : Int32).toInt64) + (nb (0 : Int32).toNatClampNeg)) : Int64).toInt32)]) (rest := []) ⟨hx, hb, hml, hown, hts⟩ (c_X3_standAt l dC dI cB cC cI cJ H.size r3 g0 g1 g2 g3 g4 g5 li (((((a0 : Int32).toInt64) + (nb (0 : Int32).toNatClampNeg)) : Int64).toInt32) ) ⟨va_cnB 2 hts gX2_addUp_X3_standAt_n150 rfl rfl rfl (hG.nm (A := #[]) (w := .methodLinkNest RX2 150 yX3_standAt "MappingDesk") (by decide +kernel)) (hts (.initialized RX3) (by decide +kernel)) (by decide +kernel) ⟨(Nat.le_of_ble_eq_true rfl), (Nat.le_of_ble_eq_true rfl)⟩, hts (.instanceMethod yX3_standAt) (by decide +kernel), hts (.selects RX3 yX3_standAt yX3_standAt) (by decide +kernel)⟩ ⟨cP_blind, va_recv hG.1 hPc (ci := 3) (q0 := 0) rfl rfl, cP_pre hPc hG hDc⟩ rfl rfl hl.1 rfl (lv_room (Nat.le_of_ble_eq_true rfl)) dX2_addUp_47 ⟨Nat.le_of_ble_eq_true rfl, Nat.le_of_ble_eq_true rfl⟩) hS (fun q _ h => hFc q h) hFc (fun u t H1 locs ht hvm hw hB hz1 hk1 hS => ?_)
      obtain ⟨hP1, hD1⟩ := hB
      rw [ht] at hP1
      generalize hr_11 : fX3_standAt g0 g1 g2 g3 g4 g5 li (((((a0 : Int32).toInt64) + (nb (0 : Int32).toNatClampNeg)) : Int64).toInt32) = r_11 at hP1 hD1 hw
      have er_11_0 := hw
      rw [bnd_eq hr_11] at hR
      obtain ⟨hP, hD⟩ := va_join (wr := [(h0, .inr (2, [.ref r0, .ref r1, .ref r2, .ref r3, .ref r4, .int nc, .int ss, .int ib, .int li, .int ff, .int fp])), (r1, .inl (cJ, 5, .inr (.inl nb))), (r2, .inr (0, [.int a0, .int a1, .int a2, .int a3, .int a4]))]) (w1 := [(r3, .inr (3, [.int r_11.1, .int r_11.2.1, .int r_11.2.2.1, .int r_11.2.2.2.1, .int r_11.2.2.2.2.1, .int r_11.2.2.2.2.2]))]) hP hD [3] [0, 1, 2] rfl rfl (by decide) (by decide) hk1 hFc hP1 hD1
      generalize H1 = H at hP hS ⊢
      have hP := hP.sub (ws' := [(h0, .inr (2, [.ref r0, .ref r1, .ref r2, .ref r3, .ref r4, .int nc, .int ss, .int ib, .int li, .int ff, .int fp])), (r1, .inl (cJ, 5, .inr (.inl nb))), (r2, .inr (0, [.int a0, .int a1, .int a2, .int a3, .int a4])), (r3, .inr (3, [.int r_11.1, .int r_11.2.1, .int r_11.2.2.1, .int r_11.2.2.2.1, .int r_11.2.2.2.2.1, .int r_11.2.2.2.2.2]))]) [0, 1, 2, 3] rfl
      have hD := hD.sub (ws' := [(h0, .inr (2, [.ref r0, .ref r1, .ref r2, .ref r3, .ref r4, .int nc, .int ss, .int ib, .int li, .int ff, .int fp])), (r1, .inl (cJ, 5, .inr (.inl nb))), (r2, .inr (0, [.int a0, .int a1, .int a2, .int a3, .int a4])), (r3, .inr (3, [.int r_11.1, .int r_11.2.1, .int r_11.2.2.1, .int r_11.2.2.2.1, .int r_11.2.2.2.2.1, .int r_11.2.2.2.2.2]))]) [0, 1, 2, 3] (by decide) rfl
      refine lv_aload_n hx hb dX2_addUp_50 rfl (lv_at hl 1 rfl) ?_
      refine va_get (D := (dC, dI)) (ci := 2) (v := .int nc) (C := RX2) (T := TX2) (N := 11) hx hb hts inc_X2_addUp_2 hown hG.1 hP 0 rfl rfl 5 (by decide) (hts (.fieldLink RX2 76 "MappingDesk$Reader" "numberCount" "I") (by decide +kernel)) (fun _ h9 => h9) rfl dX2_addUp_51 ?_
      refine lv_iconst (v := 4) hx hb dX2_addUp_54 (by decide) ?_
      refine lv_icmp_ge (tgt := 60) hx hb dX2_addUp_55 (by decide) (fun c_12 => ?_) (fun c_12 => ?_)
      · rw [if_pos c_12] at hR
        refine lv_aload_n hx hb dX2_addUp_60 rfl (lv_at hl 1 rfl) ?_
        refine va_get (D := (dC, dI)) (ci := 2) (v := .ref r2) (C := RX2) (T := TX2) (N := 11) hx hb hts inc_X2_addUp_2 hown hG.1 hP 0 rfl rfl 2 (by decide) (hts (.fieldLink RX2 25 "MappingDesk$Reader" "ahead" "LMappingDesk$Ahead;") (by decide +kernel)) (fun _ h9 => h9) rfl dX2_addUp_61 ?_
        refine va_getN (D := (dC, dI)) (ci := 0) (v := .int a1) (C := RX0) (T := TX0) (N := 5) hx hb hts inc_X2_addUp_0 hown hG.1 hP 2 rfl rfl 1 (by decide) (hG.nf (a := RX2) (i := 153) (b := "MappingDesk$Ahead") (n := "source") (d := "I") (t := "MappingDesk") (by decide +kernel)) (fun _ h9 => h9) rfl dX2_addUp_64 ?_
        refine lv_i2l hx hb dX2_addUp_67 rfl ?_
        refine lv_aload_n hx hb dX2_addUp_68 rfl (lv_at hl 1 rfl) ?_
        refine va_get (D := (dC, dI)) (ci := 2) (v := .ref r1) (C := RX2) (T := TX2) (N := 11) hx hb hts inc_X2_addUp_2 hown hG.1 hP 0 rfl rfl 1 (by decide) (hts (.fieldLink RX2 18 "MappingDesk$Reader" "numbers" "[J") (by decide +kernel)) (fun _ h9 => h9) rfl dX2_addUp_69 ?_
        refine lv_iconst (v := 1) hx hb dX2_addUp_72 (by decide) ?_
        have b_13 : vp_in 1 5 := by
          have k_14 : (4 : Int32).toInt = 4 := by decide
          have q_15 := i_le c_12
          have k_16 : (1 : Int32).toInt = 1 := by decide
          refine vin ?_ ?_
          all_goals (try generalize Int32.toInt r_11.1 = z0 at *; try generalize Int32.toInt nc = z1 at *; try generalize Int32.toInt (1 : Int32) = z2 at *; try generalize Int32.toInt (4 : Int32) = z3 at *; omega)
        refine va_lald hx hb hG.1 hP 1 3 rfl rfl b_13 dX2_addUp_73 ?_
        refine lv_ladd hx hb dX2_addUp_74 ?_
        refine lv_lstore_n (lv' := [(3, .long (((a1 : Int32).toInt64) + (nb (1 : Int32).toNatClampNeg))), (1, .long (((a0 : Int32).toInt64) + (nb (0 : Int32).toNatClampNeg))), (0, .ref h0)]) hx hb dX2_addUp_75 rfl hl (by decide) rfl (fun ls hl => ?_)
        refine lv_aload_n hx hb dX2_addUp_76 rfl (lv_at hl 2 rfl) ?_
        refine va_get (D := (dC, dI)) (ci := 2) (v := .ref r2) (C := RX2) (T := TX2) (N := 11) hx hb hts inc_X2_addUp_2 hown hG.1 hP 0 rfl rfl 2 (by decide) (hts (.fieldLink RX2 25 "MappingDesk$Reader" "ahead" "LMappingDesk$Ahead;") (by decide +kernel)) (fun _ h9 => h9) rfl dX2_addUp_77 ?_
        refine va_getN (D := (dC, dI)) (ci := 0) (v := .int a2) (C := RX0) (T := TX0) (N := 5) hx hb hts inc_X2_addUp_0 hown hG.1 hP 2 rfl rfl 2 (by decide) (hG.nf (a := RX2) (i := 156) (b := "MappingDesk$Ahead") (n := "sourceLine") (d := "I") (t := "MappingDesk") (by decide +kernel)) (fun _ h9 => h9) rfl dX2_addUp_80 ?_
        refine lv_i2l hx hb dX2_addUp_83 rfl ?_
        refine lv_aload_n hx hb dX2_addUp_84 rfl (lv_at hl 2 rfl) ?_
        refine va_get (D := (dC, dI)) (ci := 2) (v := .ref r1) (C := RX2) (T := TX2) (N := 11) hx hb hts inc_X2_addUp_2 hown hG.1 hP 0 rfl rfl 1 (by decide) (hts (.fieldLink RX2 18 "MappingDesk$Reader" "numbers" "[J") (by decide +kernel)) (fun _ h9 => h9) rfl dX2_addUp_85 ?_
        refine lv_iconst (v := 2) hx hb dX2_addUp_88 (by decide) ?_
        have b_19 : vp_in 2 5 := by
          have k_20 : (4 : Int32).toInt = 4 := by decide
          have q_21 := i_le c_12
          have k_22 : (2 : Int32).toInt = 2 := by decide
          refine vin ?_ ?_
          all_goals (try generalize Int32.toInt r_11.1 = z0 at *; try generalize Int32.toInt nc = z1 at *; try generalize Int32.toInt (2 : Int32) = z2 at *; try generalize Int32.toInt (4 : Int32) = z3 at *; omega)
        refine va_lald hx hb hG.1 hP 1 3 rfl rfl b_19 dX2_addUp_89 ?_
        refine lv_ladd hx hb dX2_addUp_90 ?_
        refine lv_lstore (lv' := [(5, .long (((a2 : Int32).toInt64) + (nb (2 : Int32).toNatClampNeg))), (3, .long (((a1 : Int32).toInt64) + (nb (1 : Int32).toNatClampNeg))), (1, .long (((a0 : Int32).toInt64) + (nb (0 : Int32).toNatClampNeg))), (0, .ref h0)]) hx hb dX2_addUp_91 hl (by decide) rfl (fun ls hl => ?_)
        refine lv_aload_n hx hb dX2_addUp_93 rfl (lv_at hl 3 rfl) ?_
        refine va_get (D := (dC, dI)) (ci := 2) (v := .ref r2) (C := RX2) (T := TX2) (N := 11) hx hb hts inc_X2_addUp_2 hown hG.1 hP 0 rfl rfl 2 (by decide) (hts (.fieldLink RX2 25 "MappingDesk$Reader" "ahead" "LMappingDesk$Ahead;") (by decide +kernel)) (fun _ h9 => h9) rfl dX2_addUp_94 ?_
        refine va_getN (D := (dC, dI)) (ci := 0) (v := .int a3) (C := RX0) (T := TX0) (N := 5) hx hb hts inc_X2_addUp_0 hown hG.1 hP 2 rfl rfl 3 (by decide) (hG.nf (a := RX2) (i := 159) (b := "MappingDesk$Ahead") (n := "sourceColumn") (d := "I") (t := "MappingDesk") (by decide +kernel)) (fun _ h9 => h9) rfl dX2_addUp_97 ?_
        refine lv_i2l hx hb dX2_addUp_100 rfl ?_
        refine lv_aload_n hx hb dX2_addUp_101 rfl (lv_at hl 3 rfl) ?_
        refine va_get (D := (dC, dI)) (ci := 2) (v := .ref r1) (C := RX2) (T := TX2) (N := 11) hx hb hts inc_X2_addUp_2 hown hG.1 hP 0 rfl rfl 1 (by decide) (hts (.fieldLink RX2 18 "MappingDesk$Reader" "numbers" "[J") (by decide +kernel)) (fun _ h9 => h9) rfl dX2_addUp_102 ?_
        refine lv_iconst (v := 3) hx hb dX2_addUp_105 (by decide) ?_
        have b_25 : vp_in 3 5 := by
          have k_26 : (4 : Int32).toInt = 4 := by decide
          have q_27 := i_le c_12
          have k_28 : (3 : Int32).toInt = 3 := by decide
          refine vin ?_ ?_
          all_goals (try generalize Int32.toInt r_11.1 = z0 at *; try generalize Int32.toInt nc = z1 at *; try generalize Int32.toInt (3 : Int32) = z2 at *; try generalize Int32.toInt (4 : Int32) = z3 at *; omega)
        refine va_lald hx hb hG.1 hP 1 3 rfl rfl b_25 dX2_addUp_106 ?_
        refine lv_ladd hx hb dX2_addUp_107 ?_
        refine lv_lstore (lv' := [(7, .long (((a3 : Int32).toInt64) + (nb (3 : Int32).toNatClampNeg))), (5, .long (((a2 : Int32).toInt64) + (nb (2 : Int32).toNatClampNeg))), (3, .long (((a1 : Int32).toInt64) + (nb (1 : Int32).toNatClampNeg))), (1, .long (((a0 : Int32).toInt64) + (nb (0 : Int32).toNatClampNeg))), (0, .ref h0)]) hx hb dX2_addUp_108 hl (by decide) rfl (fun ls hl => ?_)
        refine lv_aload_n hx hb dX2_addUp_110 rfl (lv_at hl 4 rfl) ?_
        refine va_get (D := (dC, dI)) (ci := 2) (v := .int nc) (C := RX2) (T := TX2) (N := 11) hx hb hts inc_X2_addUp_2 hown hG.1 hP 0 rfl rfl 5 (by decide) (hts (.fieldLink RX2 76 "MappingDesk$Reader" "numberCount" "I") (by decide +kernel)) (fun _ h9 => h9) rfl dX2_addUp_111 ?_
        refine lv_iconst (v := 5) hx hb dX2_addUp_114 (by decide) ?_
        refine lv_icmp_ge (tgt := 122) hx hb dX2_addUp_115 (by decide) (fun c_31 => ?_) (fun c_31 => ?_)
        · rw [if_pos c_31] at hR
          refine lv_aload_n hx hb dX2_addUp_122 rfl (lv_at hl 4 rfl) ?_
          refine va_get (D := (dC, dI)) (ci := 2) (v := .ref r2) (C := RX2) (T := TX2) (N := 11) hx hb hts inc_X2_addUp_2 hown hG.1 hP 0 rfl rfl 2 (by decide) (hts (.fieldLink RX2 25 "MappingDesk$Reader" "ahead" "LMappingDesk$Ahead;") (by decide +kernel)) (fun _ h9 => h9) rfl dX2_addUp_123 ?_
          refine va_getN (D := (dC, dI)) (ci := 0) (v := .int a4) (C := RX0) (T := TX0) (N := 5) hx hb hts inc_X2_addUp_0 hown hG.1 hP 2 rfl rfl 4 (by decide) (hG.nf (a := RX2) (i := 162) (b := "MappingDesk$Ahead") (n := "name") (d := "I") (t := "MappingDesk") (by decide +kernel)) (fun _ h9 => h9) rfl dX2_addUp_126 ?_
          refine lv_i2l hx hb dX2_addUp_129 rfl ?_
          refine lv_aload_n hx hb dX2_addUp_130 rfl (lv_at hl 4 rfl) ?_
          refine va_get (D := (dC, dI)) (ci := 2) (v := .ref r1) (C := RX2) (T := TX2) (N := 11) hx hb hts inc_X2_addUp_2 hown hG.1 hP 0 rfl rfl 1 (by decide) (hts (.fieldLink RX2 18 "MappingDesk$Reader" "numbers" "[J") (by decide +kernel)) (fun _ h9 => h9) rfl dX2_addUp_131 ?_
          refine lv_iconst (v := 4) hx hb dX2_addUp_134 (by decide) ?_
          have b_32 : vp_in 4 5 := by
            have k_33 : (4 : Int32).toInt = 4 := by decide
            have q_34 := i_le c_12
            have k_35 : (5 : Int32).toInt = 5 := by decide
            have q_36 := i_le c_31
            refine vin ?_ ?_
            all_goals (try generalize Int32.toInt r_11.1 = z0 at *; try generalize Int32.toInt nc = z1 at *; try generalize Int32.toInt (4 : Int32) = z2 at *; try generalize Int32.toInt (5 : Int32) = z3 at *; omega)
          refine va_lald hx hb hG.1 hP 1 3 rfl rfl b_32 dX2_addUp_135 ?_
          refine lv_ladd hx hb dX2_addUp_136 ?_
          refine lv_lstore (lv' := [(9, .long (((a4 : Int32).toInt64) + (nb (4 : Int32).toNatClampNeg))), (7, .long (((a3 : Int32).toInt64) + (nb (3 : Int32).toNatClampNeg))), (5, .long (((a2 : Int32).toInt64) + (nb (2 : Int32).toNatClampNeg))), (3, .long (((a1 : Int32).toInt64) + (nb (1 : Int32).toNatClampNeg))), (1, .long (((a0 : Int32).toInt64) + (nb (0 : Int32).toNatClampNeg))), (0, .ref h0)]) hx hb dX2_addUp_137 hl (by decide) rfl (fun ls hl => ?_)
          refine lv_lload_n hx hb dX2_addUp_139 rfl (lv_at hl 3 rfl) ?_
          refine lv_bipush (v := 99) hx hb dX2_addUp_140 (by decide) ?_
          have hPc := hP.sub (ws' := []) [] rfl
          have hDc := hD.sub (ws' := []) [] (by decide) rfl
          refine vp_callSi (va_Run.run (va_runSN (As := [.long (((a1 : Int32).toInt64) + (nb (1 : Int32).toNatClampNeg)), .int 99]) (rest := []) ⟨hx, hb, hml, hown, hts⟩ (c_X8_isWithin l dC dI cB cC cI cJ H.size (((a1 : Int32).toInt64) + (nb (1 : Int32).toNatClampNeg)) 99 ) ⟨va_cnB 2 hts gX2_addUp_X8_isWithin_n165 rfl rfl rfl (hG.nm (A := #[]) (w := .methodLinkNest RX2 165 yX8_isWithin "MappingDesk") (by decide +kernel)) (hts (.initialized RX8) (by decide +kernel)) (by decide +kernel) ⟨(Nat.le_of_ble_eq_true rfl), (Nat.le_of_ble_eq_true rfl)⟩, hts (.static yX8_isWithin) (by decide +kernel), trivial⟩ ⟨cP_blind, cP_pre hPc hG hDc⟩ rfl rfl hl.1 rfl (lv_room (Nat.le_of_ble_eq_true rfl)) dX2_addUp_142 ⟨Nat.le_of_ble_eq_true rfl, Nat.le_of_ble_eq_true rfl⟩)) (fun r_39 hr_39 => ?_)
          rw [bnd_eq hr_39.symm] at hR
          refine lv_if_eq (tgt := 178) hx hb dX2_addUp_145 (by decide) (fun c_40 => ?_) (fun c_40 => ?_)
          · rw [if_pos c_40] at hR
            refine lv_iconst (v := 0) hx hb dX2_addUp_178 (by decide) ?_
            subst hR
            exact W.zret (v := 0) hx hb hr rfl (fun t ht hW => ⟨⟨0, (), rfl, rfl, by rw [ht]; exact hP, hD⟩, hS.F ht⟩) hS.2.2 dX2_addUp_179
          · rw [if_neg c_40] at hR
            refine lv_lload hx hb dX2_addUp_148 (lv_at hl 2 rfl) ?_
            refine lv_ldc (v := 999999) hx hb hown (hts (.constant RX2 169 999999) (by decide +kernel)) dX2_addUp_150 ?_
            have hPc := hP.sub (ws' := []) [] rfl
            have hDc := hD.sub (ws' := []) [] (by decide) rfl
            refine vp_callSi (va_Run.run (va_runSN (As := [.long (((a2 : Int32).toInt64) + (nb (2 : Int32).toNatClampNeg)), .int 999999]) (rest := []) ⟨hx, hb, hml, hown, hts⟩ (c_X8_isWithin l dC dI cB cC cI cJ H.size (((a2 : Int32).toInt64) + (nb (2 : Int32).toNatClampNeg)) 999999 ) ⟨va_cnB 2 hts gX2_addUp_X8_isWithin_n165 rfl rfl rfl (hG.nm (A := #[]) (w := .methodLinkNest RX2 165 yX8_isWithin "MappingDesk") (by decide +kernel)) (hts (.initialized RX8) (by decide +kernel)) (by decide +kernel) ⟨(Nat.le_of_ble_eq_true rfl), (Nat.le_of_ble_eq_true rfl)⟩, hts (.static yX8_isWithin) (by decide +kernel), trivial⟩ ⟨cP_blind, cP_pre hPc hG hDc⟩ rfl rfl hl.1 rfl (lv_room (Nat.le_of_ble_eq_true rfl)) dX2_addUp_152 ⟨Nat.le_of_ble_eq_true rfl, Nat.le_of_ble_eq_true rfl⟩)) (fun r_41 hr_41 => ?_)
            rw [bnd_eq hr_41.symm] at hR
            refine lv_if_eq (tgt := 178) hx hb dX2_addUp_155 (by decide) (fun c_42 => ?_) (fun c_42 => ?_)
            · rw [if_pos c_42] at hR
              refine lv_iconst (v := 0) hx hb dX2_addUp_178 (by decide) ?_
              subst hR
              exact W.zret (v := 0) hx hb hr rfl (fun t ht hW => ⟨⟨0, (), rfl, rfl, by rw [ht]; exact hP, hD⟩, hS.F ht⟩) hS.2.2 dX2_addUp_179
            · rw [if_neg c_42] at hR
              refine lv_lload hx hb dX2_addUp_158 (lv_at hl 1 rfl) ?_
              refine lv_ldc (v := 999999) hx hb hown (hts (.constant RX2 169 999999) (by decide +kernel)) dX2_addUp_160 ?_
              have hPc := hP.sub (ws' := []) [] rfl
              have hDc := hD.sub (ws' := []) [] (by decide) rfl
              refine vp_callSi (va_Run.run (va_runSN (As := [.long (((a3 : Int32).toInt64) + (nb (3 : Int32).toNatClampNeg)), .int 999999]) (rest := []) ⟨hx, hb, hml, hown, hts⟩ (c_X8_isWithin l dC dI cB cC cI cJ H.size (((a3 : Int32).toInt64) + (nb (3 : Int32).toNatClampNeg)) 999999 ) ⟨va_cnB 2 hts gX2_addUp_X8_isWithin_n165 rfl rfl rfl (hG.nm (A := #[]) (w := .methodLinkNest RX2 165 yX8_isWithin "MappingDesk") (by decide +kernel)) (hts (.initialized RX8) (by decide +kernel)) (by decide +kernel) ⟨(Nat.le_of_ble_eq_true rfl), (Nat.le_of_ble_eq_true rfl)⟩, hts (.static yX8_isWithin) (by decide +kernel), trivial⟩ ⟨cP_blind, cP_pre hPc hG hDc⟩ rfl rfl hl.1 rfl (lv_room (Nat.le_of_ble_eq_true rfl)) dX2_addUp_162 ⟨Nat.le_of_ble_eq_true rfl, Nat.le_of_ble_eq_true rfl⟩)) (fun r_43 hr_43 => ?_)
              rw [bnd_eq hr_43.symm] at hR
              refine lv_if_eq (tgt := 178) hx hb dX2_addUp_165 (by decide) (fun c_44 => ?_) (fun c_44 => ?_)
              · rw [if_pos c_44] at hR
                refine lv_iconst (v := 0) hx hb dX2_addUp_178 (by decide) ?_
                subst hR
                exact W.zret (v := 0) hx hb hr rfl (fun t ht hW => ⟨⟨0, (), rfl, rfl, by rw [ht]; exact hP, hD⟩, hS.F ht⟩) hS.2.2 dX2_addUp_179
              · rw [if_neg c_44] at hR
                refine lv_lload hx hb dX2_addUp_168 (lv_at hl 0 rfl) ?_
                refine lv_bipush (v := 99) hx hb dX2_addUp_170 (by decide) ?_
                have hPc := hP.sub (ws' := []) [] rfl
                have hDc := hD.sub (ws' := []) [] (by decide) rfl
                refine vp_callSi (va_Run.run (va_runSN (As := [.long (((a4 : Int32).toInt64) + (nb (4 : Int32).toNatClampNeg)), .int 99]) (rest := []) ⟨hx, hb, hml, hown, hts⟩ (c_X8_isWithin l dC dI cB cC cI cJ H.size (((a4 : Int32).toInt64) + (nb (4 : Int32).toNatClampNeg)) 99 ) ⟨va_cnB 2 hts gX2_addUp_X8_isWithin_n165 rfl rfl rfl (hG.nm (A := #[]) (w := .methodLinkNest RX2 165 yX8_isWithin "MappingDesk") (by decide +kernel)) (hts (.initialized RX8) (by decide +kernel)) (by decide +kernel) ⟨(Nat.le_of_ble_eq_true rfl), (Nat.le_of_ble_eq_true rfl)⟩, hts (.static yX8_isWithin) (by decide +kernel), trivial⟩ ⟨cP_blind, cP_pre hPc hG hDc⟩ rfl rfl hl.1 rfl (lv_room (Nat.le_of_ble_eq_true rfl)) dX2_addUp_172 ⟨Nat.le_of_ble_eq_true rfl, Nat.le_of_ble_eq_true rfl⟩)) (fun r_45 hr_45 => ?_)
                rw [bnd_eq hr_45.symm] at hR
                refine lv_if_ne (tgt := 180) hx hb dX2_addUp_175 (by decide) (fun c_46 => ?_) (fun c_46 => ?_)
                · rw [if_neg c_46] at hR
                  refine lv_aload_n hx hb dX2_addUp_180 rfl (lv_at hl 5 rfl) ?_
                  refine va_get (D := (dC, dI)) (ci := 2) (v := .ref r3) (C := RX2) (T := TX2) (N := 11) hx hb hts inc_X2_addUp_2 hown hG.1 hP 0 rfl rfl 3 (by decide) (hts (.fieldLink RX2 32 "MappingDesk$Reader" "segment" "LMappingDesk$Segment;") (by decide +kernel)) (fun _ h9 => h9) rfl dX2_addUp_181 ?_
                  refine lv_lload_n hx hb dX2_addUp_184 rfl (lv_at hl 3 rfl) ?_
                  refine lv_l2i hx hb dX2_addUp_185 rfl ?_
                  refine lv_lload hx hb dX2_addUp_186 (lv_at hl 2 rfl) ?_
                  refine lv_l2i hx hb dX2_addUp_188 rfl ?_
                  refine lv_lload hx hb dX2_addUp_189 (lv_at hl 1 rfl) ?_
                  refine lv_l2i hx hb dX2_addUp_191 rfl ?_
                  refine lv_aload_n hx hb dX2_addUp_192 rfl (lv_at hl 5 rfl) ?_
                  refine va_get (D := (dC, dI)) (ci := 2) (v := .int nc) (C := RX2) (T := TX2) (N := 11) hx hb hts inc_X2_addUp_2 hown hG.1 hP 0 rfl rfl 5 (by decide) (hts (.fieldLink RX2 76 "MappingDesk$Reader" "numberCount" "I") (by decide +kernel)) (fun _ h9 => h9) rfl dX2_addUp_193 ?_
                  refine lv_iconst (v := 5) hx hb dX2_addUp_196 (by decide) ?_
                  refine lv_icmp_ge (tgt := 204) hx hb dX2_addUp_197 (by decide) (fun c_47 => ?_) (fun c_47 => ?_)
                  · refine lv_lload hx hb dX2_addUp_204 (lv_at hl 0 rfl) ?_
                    refine lv_l2i hx hb dX2_addUp_206 rfl ?_
                    have hPc := hP.sub (ws' := [(r3, .inr (3, [.int r_11.1, .int r_11.2.1, .int r_11.2.2.1, .int r_11.2.2.2.1, .int r_11.2.2.2.2.1, .int r_11.2.2.2.2.2]))]) [3] rfl
                    have hDc := hD.sub (ws' := [(r3, .inr (3, [.int r_11.1, .int r_11.2.1, .int r_11.2.2.1, .int r_11.2.2.2.1, .int r_11.2.2.2.2.1, .int r_11.2.2.2.2.2]))]) [3] (by decide) rfl
                    have hFc := va_free (wc := [(r3, .inr (3, [.int r_11.1, .int r_11.2.1, .int r_11.2.2.1, .int r_11.2.2.2.1, .int r_11.2.2.2.2.1, .int r_11.2.2.2.2.2]))]) hD hS hA [3] rfl
                    refine va_callv (va_runVN (C := RX3) (As := [.int (((((a1 : Int32).toInt64) + (nb (1 : Int32).toNatClampNeg)) : Int64).toInt32), .int (((((a2 : Int32).toInt64) + (nb (2 : Int32).toNatClampNeg)) : Int64).toInt32), .int (((((a3 : Int32).toInt64) + (nb (3 : Int32).toNatClampNeg)) : Int64).toInt32), .int (((((a4 : Int32).toInt64) + (nb (4 : Int32).toNatClampNeg)) : Int64).toInt32)]) (rest := []) ⟨hx, hb, hml, hown, hts⟩ (c_X3_tell l dC dI cB cC cI cJ H.size r3 r_11.1 r_11.2.1 r_11.2.2.1 r_11.2.2.2.1 r_11.2.2.2.2.1 r_11.2.2.2.2.2 (((((a1 : Int32).toInt64) + (nb (1 : Int32).toNatClampNeg)) : Int64).toInt32) (((((a2 : Int32).toInt64) + (nb (2 : Int32).toNatClampNeg)) : Int64).toInt32) (((((a3 : Int32).toInt64) + (nb (3 : Int32).toNatClampNeg)) : Int64).toInt32) (((((a4 : Int32).toInt64) + (nb (4 : Int32).toNatClampNeg)) : Int64).toInt32) ) ⟨va_cnB 4 hts gX2_addUp_X3_tell_n170 rfl rfl rfl (hG.nm (A := #[]) (w := .methodLinkNest RX2 170 yX3_tell "MappingDesk") (by decide +kernel)) (hts (.initialized RX3) (by decide +kernel)) (by decide +kernel) ⟨(Nat.le_of_ble_eq_true rfl), (Nat.le_of_ble_eq_true rfl)⟩, hts (.instanceMethod yX3_tell) (by decide +kernel), hts (.selects RX3 yX3_tell yX3_tell) (by decide +kernel)⟩ ⟨cP_blind, va_recv hG.1 hPc (ci := 3) (q0 := 0) rfl rfl, cP_pre hPc hG hDc⟩ rfl rfl hl.1 rfl (lv_room (Nat.le_of_ble_eq_true rfl)) dX2_addUp_207 ⟨Nat.le_of_ble_eq_true rfl, Nat.le_of_ble_eq_true rfl⟩) hS (fun q _ h => hFc q h) hFc (fun u t H1 locs ht hvm hw hB hz1 hk1 hS => ?_)
                    obtain ⟨hP1, hD1⟩ := hB
                    rw [ht] at hP1
                    generalize hr_48 : fX3_tell r_11.1 r_11.2.1 r_11.2.2.1 r_11.2.2.2.1 r_11.2.2.2.2.1 r_11.2.2.2.2.2 (((((a1 : Int32).toInt64) + (nb (1 : Int32).toNatClampNeg)) : Int64).toInt32) (((((a2 : Int32).toInt64) + (nb (2 : Int32).toNatClampNeg)) : Int64).toInt32) (((((a3 : Int32).toInt64) + (nb (3 : Int32).toNatClampNeg)) : Int64).toInt32) (((((a4 : Int32).toInt64) + (nb (4 : Int32).toNatClampNeg)) : Int64).toInt32) = r_48 at hP1 hD1
                    rw [bnd_eq hr_48] at hR
                    obtain ⟨hP, hD⟩ := va_join (wr := [(h0, .inr (2, [.ref r0, .ref r1, .ref r2, .ref r3, .ref r4, .int nc, .int ss, .int ib, .int li, .int ff, .int fp])), (r1, .inl (cJ, 5, .inr (.inl nb))), (r2, .inr (0, [.int a0, .int a1, .int a2, .int a3, .int a4]))]) (w1 := [(r3, .inr (3, [.int r_11.1, .int r_11.2.1, .int r_48.1, .int r_48.2.1, .int r_48.2.2.1, .int r_48.2.2.2]))]) hP hD [3] [0, 1, 2] rfl rfl (by decide) (by decide) hk1 hFc hP1 hD1
                    generalize H1 = H at hP hS ⊢
                    have hP := hP.sub (ws' := [(h0, .inr (2, [.ref r0, .ref r1, .ref r2, .ref r3, .ref r4, .int nc, .int ss, .int ib, .int li, .int ff, .int fp])), (r1, .inl (cJ, 5, .inr (.inl nb))), (r2, .inr (0, [.int a0, .int a1, .int a2, .int a3, .int a4])), (r3, .inr (3, [.int r_11.1, .int r_11.2.1, .int r_48.1, .int r_48.2.1, .int r_48.2.2.1, .int r_48.2.2.2]))]) [0, 1, 2, 3] rfl
                    have hD := hD.sub (ws' := [(h0, .inr (2, [.ref r0, .ref r1, .ref r2, .ref r3, .ref r4, .int nc, .int ss, .int ib, .int li, .int ff, .int fp])), (r1, .inl (cJ, 5, .inr (.inl nb))), (r2, .inr (0, [.int a0, .int a1, .int a2, .int a3, .int a4])), (r3, .inr (3, [.int r_11.1, .int r_11.2.1, .int r_48.1, .int r_48.2.1, .int r_48.2.2.1, .int r_48.2.2.2]))]) [0, 1, 2, 3] (by decide) rfl
                    refine lv_iconst (v := 1) hx hb dX2_addUp_210 (by decide) ?_
                    subst hR
                    exact W.zret (v := 1) hx hb hr rfl (fun t ht hW => ⟨⟨1, (), rfl, rfl, by rw [ht]; exact hP, hD⟩, hS.F ht⟩) hS.2.2 dX2_addUp_211
                  · exact absurd c_31 c_47
                · rw [if_pos c_46] at hR
                  refine lv_iconst (v := 0) hx hb dX2_addUp_178 (by decide) ?_
                  subst hR
                  exact W.zret (v := 0) hx hb hr rfl (fun t ht hW => ⟨⟨0, (), rfl, rfl, by rw [ht]; exact hP, hD⟩, hS.F ht⟩) hS.2.2 dX2_addUp_179
        · rw [if_neg c_31] at hR
          refine lv_lconst (v := 0) hx hb dX2_addUp_118 (by decide) ?_
          refine lv_goto (tgt := 137) hx hb dX2_addUp_119 (by decide) ?_
          refine lv_lstore (lv' := [(9, .long 0), (7, .long (((a3 : Int32).toInt64) + (nb (3 : Int32).toNatClampNeg))), (5, .long (((a2 : Int32).toInt64) + (nb (2 : Int32).toNatClampNeg))), (3, .long (((a1 : Int32).toInt64) + (nb (1 : Int32).toNatClampNeg))), (1, .long (((a0 : Int32).toInt64) + (nb (0 : Int32).toNatClampNeg))), (0, .ref h0)]) hx hb dX2_addUp_137 hl (by decide) rfl (fun ls hl => ?_)
          refine lv_lload_n hx hb dX2_addUp_139 rfl (lv_at hl 3 rfl) ?_
          refine lv_bipush (v := 99) hx hb dX2_addUp_140 (by decide) ?_
          have hPc := hP.sub (ws' := []) [] rfl
          have hDc := hD.sub (ws' := []) [] (by decide) rfl
          refine vp_callSi (va_Run.run (va_runSN (As := [.long (((a1 : Int32).toInt64) + (nb (1 : Int32).toNatClampNeg)), .int 99]) (rest := []) ⟨hx, hb, hml, hown, hts⟩ (c_X8_isWithin l dC dI cB cC cI cJ H.size (((a1 : Int32).toInt64) + (nb (1 : Int32).toNatClampNeg)) 99 ) ⟨va_cnB 2 hts gX2_addUp_X8_isWithin_n165 rfl rfl rfl (hG.nm (A := #[]) (w := .methodLinkNest RX2 165 yX8_isWithin "MappingDesk") (by decide +kernel)) (hts (.initialized RX8) (by decide +kernel)) (by decide +kernel) ⟨(Nat.le_of_ble_eq_true rfl), (Nat.le_of_ble_eq_true rfl)⟩, hts (.static yX8_isWithin) (by decide +kernel), trivial⟩ ⟨cP_blind, cP_pre hPc hG hDc⟩ rfl rfl hl.1 rfl (lv_room (Nat.le_of_ble_eq_true rfl)) dX2_addUp_142 ⟨Nat.le_of_ble_eq_true rfl, Nat.le_of_ble_eq_true rfl⟩)) (fun r_49 hr_49 => ?_)
          rw [bnd_eq hr_49.symm] at hR
          refine lv_if_eq (tgt := 178) hx hb dX2_addUp_145 (by decide) (fun c_50 => ?_) (fun c_50 => ?_)
          · rw [if_pos c_50] at hR
            refine lv_iconst (v := 0) hx hb dX2_addUp_178 (by decide) ?_
            subst hR
            exact W.zret (v := 0) hx hb hr rfl (fun t ht hW => ⟨⟨0, (), rfl, rfl, by rw [ht]; exact hP, hD⟩, hS.F ht⟩) hS.2.2 dX2_addUp_179
          · rw [if_neg c_50] at hR
            refine lv_lload hx hb dX2_addUp_148 (lv_at hl 2 rfl) ?_
            refine lv_ldc (v := 999999) hx hb hown (hts (.constant RX2 169 999999) (by decide +kernel)) dX2_addUp_150 ?_
            have hPc := hP.sub (ws' := []) [] rfl
            have hDc := hD.sub (ws' := []) [] (by decide) rfl
            refine vp_callSi (va_Run.run (va_runSN (As := [.long (((a2 : Int32).toInt64) + (nb (2 : Int32).toNatClampNeg)), .int 999999]) (rest := []) ⟨hx, hb, hml, hown, hts⟩ (c_X8_isWithin l dC dI cB cC cI cJ H.size (((a2 : Int32).toInt64) + (nb (2 : Int32).toNatClampNeg)) 999999 ) ⟨va_cnB 2 hts gX2_addUp_X8_isWithin_n165 rfl rfl rfl (hG.nm (A := #[]) (w := .methodLinkNest RX2 165 yX8_isWithin "MappingDesk") (by decide +kernel)) (hts (.initialized RX8) (by decide +kernel)) (by decide +kernel) ⟨(Nat.le_of_ble_eq_true rfl), (Nat.le_of_ble_eq_true rfl)⟩, hts (.static yX8_isWithin) (by decide +kernel), trivial⟩ ⟨cP_blind, cP_pre hPc hG hDc⟩ rfl rfl hl.1 rfl (lv_room (Nat.le_of_ble_eq_true rfl)) dX2_addUp_152 ⟨Nat.le_of_ble_eq_true rfl, Nat.le_of_ble_eq_true rfl⟩)) (fun r_51 hr_51 => ?_)
            rw [bnd_eq hr_51.symm] at hR
            refine lv_if_eq (tgt := 178) hx hb dX2_addUp_155 (by decide) (fun c_52 => ?_) (fun c_52 => ?_)
            · rw [if_pos c_52] at hR
              refine lv_iconst (v := 0) hx hb dX2_addUp_178 (by decide) ?_
              subst hR
              exact W.zret (v := 0) hx hb hr rfl (fun t ht hW => ⟨⟨0, (), rfl, rfl, by rw [ht]; exact hP, hD⟩, hS.F ht⟩) hS.2.2 dX2_addUp_179
            · rw [if_neg c_52] at hR
              refine lv_lload hx hb dX2_addUp_158 (lv_at hl 1 rfl) ?_
              refine lv_ldc (v := 999999) hx hb hown (hts (.constant RX2 169 999999) (by decide +kernel)) dX2_addUp_160 ?_
              have hPc := hP.sub (ws' := []) [] rfl
              have hDc := hD.sub (ws' := []) [] (by decide) rfl
              refine vp_callSi (va_Run.run (va_runSN (As := [.long (((a3 : Int32).toInt64) + (nb (3 : Int32).toNatClampNeg)), .int 999999]) (rest := []) ⟨hx, hb, hml, hown, hts⟩ (c_X8_isWithin l dC dI cB cC cI cJ H.size (((a3 : Int32).toInt64) + (nb (3 : Int32).toNatClampNeg)) 999999 ) ⟨va_cnB 2 hts gX2_addUp_X8_isWithin_n165 rfl rfl rfl (hG.nm (A := #[]) (w := .methodLinkNest RX2 165 yX8_isWithin "MappingDesk") (by decide +kernel)) (hts (.initialized RX8) (by decide +kernel)) (by decide +kernel) ⟨(Nat.le_of_ble_eq_true rfl), (Nat.le_of_ble_eq_true rfl)⟩, hts (.static yX8_isWithin) (by decide +kernel), trivial⟩ ⟨cP_blind, cP_pre hPc hG hDc⟩ rfl rfl hl.1 rfl (lv_room (Nat.le_of_ble_eq_true rfl)) dX2_addUp_162 ⟨Nat.le_of_ble_eq_true rfl, Nat.le_of_ble_eq_true rfl⟩)) (fun r_53 hr_53 => ?_)
              rw [bnd_eq hr_53.symm] at hR
              refine lv_if_eq (tgt := 178) hx hb dX2_addUp_165 (by decide) (fun c_54 => ?_) (fun c_54 => ?_)
              · rw [if_pos c_54] at hR
                refine lv_iconst (v := 0) hx hb dX2_addUp_178 (by decide) ?_
                subst hR
                exact W.zret (v := 0) hx hb hr rfl (fun t ht hW => ⟨⟨0, (), rfl, rfl, by rw [ht]; exact hP, hD⟩, hS.F ht⟩) hS.2.2 dX2_addUp_179
              · rw [if_neg c_54] at hR
                refine lv_lload hx hb dX2_addUp_168 (lv_at hl 0 rfl) ?_
                refine lv_bipush (v := 99) hx hb dX2_addUp_170 (by decide) ?_
                have hPc := hP.sub (ws' := []) [] rfl
                have hDc := hD.sub (ws' := []) [] (by decide) rfl
                refine vp_callSi (va_Run.run (va_runSN (As := [.long 0, .int 99]) (rest := []) ⟨hx, hb, hml, hown, hts⟩ (c_X8_isWithin l dC dI cB cC cI cJ H.size 0 99 ) ⟨va_cnB 2 hts gX2_addUp_X8_isWithin_n165 rfl rfl rfl (hG.nm (A := #[]) (w := .methodLinkNest RX2 165 yX8_isWithin "MappingDesk") (by decide +kernel)) (hts (.initialized RX8) (by decide +kernel)) (by decide +kernel) ⟨(Nat.le_of_ble_eq_true rfl), (Nat.le_of_ble_eq_true rfl)⟩, hts (.static yX8_isWithin) (by decide +kernel), trivial⟩ ⟨cP_blind, cP_pre hPc hG hDc⟩ rfl rfl hl.1 rfl (lv_room (Nat.le_of_ble_eq_true rfl)) dX2_addUp_172 ⟨Nat.le_of_ble_eq_true rfl, Nat.le_of_ble_eq_true rfl⟩)) (fun r_55 hr_55 => ?_)
                rw [bnd_eq hr_55.symm] at hR
                refine lv_if_ne (tgt := 180) hx hb dX2_addUp_175 (by decide) (fun c_56 => ?_) (fun c_56 => ?_)
                · rw [if_neg c_56] at hR
                  refine lv_aload_n hx hb dX2_addUp_180 rfl (lv_at hl 5 rfl) ?_
                  refine va_get (D := (dC, dI)) (ci := 2) (v := .ref r3) (C := RX2) (T := TX2) (N := 11) hx hb hts inc_X2_addUp_2 hown hG.1 hP 0 rfl rfl 3 (by decide) (hts (.fieldLink RX2 32 "MappingDesk$Reader" "segment" "LMappingDesk$Segment;") (by decide +kernel)) (fun _ h9 => h9) rfl dX2_addUp_181 ?_
                  refine lv_lload_n hx hb dX2_addUp_184 rfl (lv_at hl 3 rfl) ?_
                  refine lv_l2i hx hb dX2_addUp_185 rfl ?_
                  refine lv_lload hx hb dX2_addUp_186 (lv_at hl 2 rfl) ?_
                  refine lv_l2i hx hb dX2_addUp_188 rfl ?_
                  refine lv_lload hx hb dX2_addUp_189 (lv_at hl 1 rfl) ?_
                  refine lv_l2i hx hb dX2_addUp_191 rfl ?_
                  refine lv_aload_n hx hb dX2_addUp_192 rfl (lv_at hl 5 rfl) ?_
                  refine va_get (D := (dC, dI)) (ci := 2) (v := .int nc) (C := RX2) (T := TX2) (N := 11) hx hb hts inc_X2_addUp_2 hown hG.1 hP 0 rfl rfl 5 (by decide) (hts (.fieldLink RX2 76 "MappingDesk$Reader" "numberCount" "I") (by decide +kernel)) (fun _ h9 => h9) rfl dX2_addUp_193 ?_
                  refine lv_iconst (v := 5) hx hb dX2_addUp_196 (by decide) ?_
                  refine lv_icmp_ge (tgt := 204) hx hb dX2_addUp_197 (by decide) (fun c_57 => ?_) (fun c_57 => ?_)
                  · exact absurd c_57 c_31
                  · refine lv_iconst (v := (-1)) hx hb dX2_addUp_200 (by decide) ?_
                    refine lv_goto (tgt := 207) hx hb dX2_addUp_201 (by decide) ?_
                    have hPc := hP.sub (ws' := [(r3, .inr (3, [.int r_11.1, .int r_11.2.1, .int r_11.2.2.1, .int r_11.2.2.2.1, .int r_11.2.2.2.2.1, .int r_11.2.2.2.2.2]))]) [3] rfl
                    have hDc := hD.sub (ws' := [(r3, .inr (3, [.int r_11.1, .int r_11.2.1, .int r_11.2.2.1, .int r_11.2.2.2.1, .int r_11.2.2.2.2.1, .int r_11.2.2.2.2.2]))]) [3] (by decide) rfl
                    have hFc := va_free (wc := [(r3, .inr (3, [.int r_11.1, .int r_11.2.1, .int r_11.2.2.1, .int r_11.2.2.2.1, .int r_11.2.2.2.2.1, .int r_11.2.2.2.2.2]))]) hD hS hA [3] rfl
                    refine va_callv (va_runVN (C := RX3) (As := [.int (((((a1 : Int32).toInt64) + (nb (1 : Int32).toNatClampNeg)) : Int64).toInt32), .int (((((a2 : Int32).toInt64) + (nb (2 : Int32).toNatClampNeg)) : Int64).toInt32), .int (((((a3 : Int32).toInt64) + (nb (3 : Int32).toNatClampNeg)) : Int64).toInt32), .int (-1)]) (rest := []) ⟨hx, hb, hml, hown, hts⟩ (c_X3_tell l dC dI cB cC cI cJ H.size r3 r_11.1 r_11.2.1 r_11.2.2.1 r_11.2.2.2.1 r_11.2.2.2.2.1 r_11.2.2.2.2.2 (((((a1 : Int32).toInt64) + (nb (1 : Int32).toNatClampNeg)) : Int64).toInt32) (((((a2 : Int32).toInt64) + (nb (2 : Int32).toNatClampNeg)) : Int64).toInt32) (((((a3 : Int32).toInt64) + (nb (3 : Int32).toNatClampNeg)) : Int64).toInt32) (-1) ) ⟨va_cnB 4 hts gX2_addUp_X3_tell_n170 rfl rfl rfl (hG.nm (A := #[]) (w := .methodLinkNest RX2 170 yX3_tell "MappingDesk") (by decide +kernel)) (hts (.initialized RX3) (by decide +kernel)) (by decide +kernel) ⟨(Nat.le_of_ble_eq_true rfl), (Nat.le_of_ble_eq_true rfl)⟩, hts (.instanceMethod yX3_tell) (by decide +kernel), hts (.selects RX3 yX3_tell yX3_tell) (by decide +kernel)⟩ ⟨cP_blind, va_recv hG.1 hPc (ci := 3) (q0 := 0) rfl rfl, cP_pre hPc hG hDc⟩ rfl rfl hl.1 rfl (lv_room (Nat.le_of_ble_eq_true rfl)) dX2_addUp_207 ⟨Nat.le_of_ble_eq_true rfl, Nat.le_of_ble_eq_true rfl⟩) hS (fun q _ h => hFc q h) hFc (fun u t H1 locs ht hvm hw hB hz1 hk1 hS => ?_)
                    obtain ⟨hP1, hD1⟩ := hB
                    rw [ht] at hP1
                    generalize hr_58 : fX3_tell r_11.1 r_11.2.1 r_11.2.2.1 r_11.2.2.2.1 r_11.2.2.2.2.1 r_11.2.2.2.2.2 (((((a1 : Int32).toInt64) + (nb (1 : Int32).toNatClampNeg)) : Int64).toInt32) (((((a2 : Int32).toInt64) + (nb (2 : Int32).toNatClampNeg)) : Int64).toInt32) (((((a3 : Int32).toInt64) + (nb (3 : Int32).toNatClampNeg)) : Int64).toInt32) (-1) = r_58 at hP1 hD1
                    rw [bnd_eq hr_58] at hR
                    obtain ⟨hP, hD⟩ := va_join (wr := [(h0, .inr (2, [.ref r0, .ref r1, .ref r2, .ref r3, .ref r4, .int nc, .int ss, .int ib, .int li, .int ff, .int fp])), (r1, .inl (cJ, 5, .inr (.inl nb))), (r2, .inr (0, [.int a0, .int a1, .int a2, .int a3, .int a4]))]) (w1 := [(r3, .inr (3, [.int r_11.1, .int r_11.2.1, .int r_58.1, .int r_58.2.1, .int r_58.2.2.1, .int r_58.2.2.2]))]) hP hD [3] [0, 1, 2] rfl rfl (by decide) (by decide) hk1 hFc hP1 hD1
                    generalize H1 = H at hP hS ⊢
                    have hP := hP.sub (ws' := [(h0, .inr (2, [.ref r0, .ref r1, .ref r2, .ref r3, .ref r4, .int nc, .int ss, .int ib, .int li, .int ff, .int fp])), (r1, .inl (cJ, 5, .inr (.inl nb))), (r2, .inr (0, [.int a0, .int a1, .int a2, .int a3, .int a4])), (r3, .inr (3, [.int r_11.1, .int r_11.2.1, .int r_58.1, .int r_58.2.1, .int r_58.2.2.1, .int r_58.2.2.2]))]) [0, 1, 2, 3] rfl
                    have hD := hD.sub (ws' := [(h0, .inr (2, [.ref r0, .ref r1, .ref r2, .ref r3, .ref r4, .int nc, .int ss, .int ib, .int li, .int ff, .int fp])), (r1, .inl (cJ, 5, .inr (.inl nb))), (r2, .inr (0, [.int a0, .int a1, .int a2, .int a3, .int a4])), (r3, .inr (3, [.int r_11.1, .int r_11.2.1, .int r_58.1, .int r_58.2.1, .int r_58.2.2.1, .int r_58.2.2.2]))]) [0, 1, 2, 3] (by decide) rfl
                    refine lv_iconst (v := 1) hx hb dX2_addUp_210 (by decide) ?_
                    subst hR
                    exact W.zret (v := 1) hx hb hr rfl (fun t ht hW => ⟨⟨1, (), rfl, rfl, by rw [ht]; exact hP, hD⟩, hS.F ht⟩) hS.2.2 dX2_addUp_211
                · rw [if_pos c_56] at hR
                  refine lv_iconst (v := 0) hx hb dX2_addUp_178 (by decide) ?_
                  subst hR
                  exact W.zret (v := 0) hx hb hr rfl (fun t ht hW => ⟨⟨0, (), rfl, rfl, by rw [ht]; exact hP, hD⟩, hS.F ht⟩) hS.2.2 dX2_addUp_179
      · rw [if_neg c_12] at hR
        refine lv_iconst (v := 1) hx hb dX2_addUp_58 (by decide) ?_
        subst hR
        exact W.zret (v := 1) hx hb hr rfl (fun t ht hW => ⟨⟨1, (), rfl, rfl, by rw [ht]; exact hP, hD⟩, hS.F ht⟩) hS.2.2 dX2_addUp_59
    · rw [if_neg c_10] at hR
      refine lv_iconst (v := 0) hx hb dX2_addUp_35 (by decide) ?_
      subst hR
      exact W.zret (v := 0) hx hb hr rfl (fun t ht hW => ⟨⟨0, (), rfl, rfl, by rw [ht]; exact hP, hD⟩, hS.F ht⟩) hS.2.2 dX2_addUp_36

def fX2_addSegment (nc ss ib li ff fp : Int32) (nb : Nat → Int64) (a0 a1 a2 a3 a4 : Int32) (g0 g1 g2 g3 g4 g5 : Int32) (cn : Int32) (t0 t1 t2 t3 t4 t5 : Nat → Int32) : Int32 × Int32 × Int32 × Int32 × Int32 × Int32 × Int32 × Int32 × Int32 × Int32 × Int32 × Int32 × Int32 × Int32 × (Nat → Int32) × (Nat → Int32) × (Nat → Int32) × (Nat → Int32) × (Nat → Int32) × (Nat → Int32) :=
  if nc = 1 then
    bnd (fX2_addUp nc ss ib li ff fp nb a0 a1 a2 a3 a4 g0 g1 g2 g3 g4 g5) fun r_2 =>
    if r_2.1 = 0 then
      bnd (fX2_refuse nc ss ib li ff fp 4 ss) fun r_23 =>
      (r_23.1, r_23.2, a0, a1, a2, a3, a4, r_2.2.1, r_2.2.2.1, r_2.2.2.2.1, r_2.2.2.2.2.1, r_2.2.2.2.2.2.1, r_2.2.2.2.2.2.2, cn, t0, t1, t2, t3, t4, t5)
    else
      bnd (fX4_isFull cn) fun r_4 =>
      if r_4 = 0 then
        bnd (fX4_insert cn t0 t1 t2 t3 t4 t5 r_2.2.1 r_2.2.2.1 r_2.2.2.2.1 r_2.2.2.2.2.1 r_2.2.2.2.2.2.1 r_2.2.2.2.2.2.2) fun r_8 =>
        bnd (fX0_pass a0 a1 a2 a3 a4 r_2.2.1 r_2.2.2.1 r_2.2.2.2.1 r_2.2.2.2.2.1 r_2.2.2.2.2.2.1 r_2.2.2.2.2.2.2) fun r_9 =>
        (ff, fp, r_9.1, r_9.2.1, r_9.2.2.1, r_9.2.2.2.1, r_9.2.2.2.2, r_2.2.1, r_2.2.2.1, r_2.2.2.2.1, r_2.2.2.2.2.1, r_2.2.2.2.2.2.1, r_2.2.2.2.2.2.2, r_8.1, r_8.2.1, r_8.2.2.1, r_8.2.2.2.1, r_8.2.2.2.2.1, r_8.2.2.2.2.2.1, r_8.2.2.2.2.2.2)
      else
        bnd (fX2_refuse nc ss ib li ff fp 5 ss) fun r_16 =>
        (r_16.1, r_16.2, a0, a1, a2, a3, a4, r_2.2.1, r_2.2.2.1, r_2.2.2.2.1, r_2.2.2.2.2.1, r_2.2.2.2.2.2.1, r_2.2.2.2.2.2.2, cn, t0, t1, t2, t3, t4, t5)
  else
    if nc = 4 then
      bnd (fX2_addUp nc ss ib li ff fp nb a0 a1 a2 a3 a4 g0 g1 g2 g3 g4 g5) fun r_30 =>
      if r_30.1 = 0 then
        bnd (fX2_refuse nc ss ib li ff fp 4 ss) fun r_55 =>
        (r_55.1, r_55.2, a0, a1, a2, a3, a4, r_30.2.1, r_30.2.2.1, r_30.2.2.2.1, r_30.2.2.2.2.1, r_30.2.2.2.2.2.1, r_30.2.2.2.2.2.2, cn, t0, t1, t2, t3, t4, t5)
      else
        bnd (fX4_isFull cn) fun r_32 =>
        if r_32 = 0 then
          bnd (fX4_insert cn t0 t1 t2 t3 t4 t5 r_30.2.1 r_30.2.2.1 r_30.2.2.2.1 r_30.2.2.2.2.1 r_30.2.2.2.2.2.1 r_30.2.2.2.2.2.2) fun r_36 =>
          bnd (fX0_pass a0 a1 a2 a3 a4 r_30.2.1 r_30.2.2.1 r_30.2.2.2.1 r_30.2.2.2.2.1 r_30.2.2.2.2.2.1 r_30.2.2.2.2.2.2) fun r_37 =>
          (ff, fp, r_37.1, r_37.2.1, r_37.2.2.1, r_37.2.2.2.1, r_37.2.2.2.2, r_30.2.1, r_30.2.2.1, r_30.2.2.2.1, r_30.2.2.2.2.1, r_30.2.2.2.2.2.1, r_30.2.2.2.2.2.2, r_36.1, r_36.2.1, r_36.2.2.1, r_36.2.2.2.1, r_36.2.2.2.2.1, r_36.2.2.2.2.2.1, r_36.2.2.2.2.2.2)
        else
          bnd (fX2_refuse nc ss ib li ff fp 5 ss) fun r_46 =>
          (r_46.1, r_46.2, a0, a1, a2, a3, a4, r_30.2.1, r_30.2.2.1, r_30.2.2.2.1, r_30.2.2.2.2.1, r_30.2.2.2.2.2.1, r_30.2.2.2.2.2.2, cn, t0, t1, t2, t3, t4, t5)
    else
      if nc = 5 then
        bnd (fX2_addUp nc ss ib li ff fp nb a0 a1 a2 a3 a4 g0 g1 g2 g3 g4 g5) fun r_64 =>
        if r_64.1 = 0 then
          bnd (fX2_refuse nc ss ib li ff fp 4 ss) fun r_93 =>
          (r_93.1, r_93.2, a0, a1, a2, a3, a4, r_64.2.1, r_64.2.2.1, r_64.2.2.2.1, r_64.2.2.2.2.1, r_64.2.2.2.2.2.1, r_64.2.2.2.2.2.2, cn, t0, t1, t2, t3, t4, t5)
        else
          bnd (fX4_isFull cn) fun r_66 =>
          if r_66 = 0 then
            bnd (fX4_insert cn t0 t1 t2 t3 t4 t5 r_64.2.1 r_64.2.2.1 r_64.2.2.2.1 r_64.2.2.2.2.1 r_64.2.2.2.2.2.1 r_64.2.2.2.2.2.2) fun r_70 =>
            bnd (fX0_pass a0 a1 a2 a3 a4 r_64.2.1 r_64.2.2.1 r_64.2.2.2.1 r_64.2.2.2.2.1 r_64.2.2.2.2.2.1 r_64.2.2.2.2.2.2) fun r_71 =>
            (ff, fp, r_71.1, r_71.2.1, r_71.2.2.1, r_71.2.2.2.1, r_71.2.2.2.2, r_64.2.1, r_64.2.2.1, r_64.2.2.2.1, r_64.2.2.2.2.1, r_64.2.2.2.2.2.1, r_64.2.2.2.2.2.2, r_70.1, r_70.2.1, r_70.2.2.1, r_70.2.2.2.1, r_70.2.2.2.2.1, r_70.2.2.2.2.2.1, r_70.2.2.2.2.2.2)
          else
            bnd (fX2_refuse nc ss ib li ff fp 5 ss) fun r_82 =>
            (r_82.1, r_82.2, a0, a1, a2, a3, a4, r_64.2.1, r_64.2.2.1, r_64.2.2.2.1, r_64.2.2.2.2.1, r_64.2.2.2.2.2.1, r_64.2.2.2.2.2.2, cn, t0, t1, t2, t3, t4, t5)
      else
        bnd (fX2_refuse nc ss ib li ff fp 3 ss) fun r_103 =>
        (r_103.1, r_103.2, a0, a1, a2, a3, a4, g0, g1, g2, g3, g4, g5, cn, t0, t1, t2, t3, t4, t5)
theorem inc_X2_addSegment_2 : ∀ w ∈ u_ws RX2 TX2 11, w ∈ wsX2_addSegment := by decide +kernel
set_option maxHeartbeats 4000000 in
set_option maxRecDepth 100000 in
theorem c_X2_addSegment (l : Launch) (dC : Nat → ClassId) (dI : Nat → Nat → Nat) (cB cC cI cJ : ClassId) (sz : Nat) (h0 r0 r1 r2 r3 r4 q0 q1 q2 q3 q4 q5 : Nat) (nc ss ib li ff fp : Int32) (nb : Nat → Int64) (a0 a1 a2 a3 a4 : Int32) (g0 g1 g2 g3 g4 g5 : Int32) (cn : Int32) (t0 t1 t2 t3 t4 t5 : Nat → Int32) (hn0 : 0 ≤ cn.toInt) (hn1 : cn.toInt ≤ 300) : Met l yX2_addSegment wsX2_addSegment ({ frames := 3, cells := 0, slots := 0, locals := 84 } : Room) (cP dC dI cB cC cI cJ [.ref h0] sz [(h0, .inr (2, [.ref r0, .ref r1, .ref r2, .ref r3, .ref r4, .int nc, .int ss, .int ib, .int li, .int ff, .int fp])), (r1, .inl (cJ, 5, .inr (.inl nb))), (r2, .inr (0, [.int a0, .int a1, .int a2, .int a3, .int a4])), (r3, .inr (3, [.int g0, .int g1, .int g2, .int g3, .int g4, .int g5])), (r4, .inr (4, [.ref q0, .ref q1, .ref q2, .ref q3, .ref q4, .ref q5, .int cn])), (q0, .inl (cI, 300, .inl t0)), (q1, .inl (cI, 300, .inl t1)), (q2, .inl (cI, 300, .inl t2)), (q3, .inl (cI, 300, .inl t3)), (q4, .inl (cI, 300, .inl t4)), (q5, .inl (cI, 300, .inl t5))]) (va_Qv (fun _ => (0 ≤ (fX2_addSegment nc ss ib li ff fp nb a0 a1 a2 a3 a4 g0 g1 g2 g3 g4 g5 cn t0 t1 t2 t3 t4 t5).2.2.2.2.2.2.2.2.2.2.2.2.2.1.toInt ∧ (fX2_addSegment nc ss ib li ff fp nb a0 a1 a2 a3 a4 g0 g1 g2 g3 g4 g5 cn t0 t1 t2 t3 t4 t5).2.2.2.2.2.2.2.2.2.2.2.2.2.1.toInt ≤ 300)) (cE dC dI (va_A [(h0, .inr (2, [.ref r0, .ref r1, .ref r2, .ref r3, .ref r4, .int nc, .int ss, .int ib, .int li, .int ff, .int fp])), (r1, .inl (cJ, 5, .inr (.inl nb))), (r2, .inr (0, [.int a0, .int a1, .int a2, .int a3, .int a4])), (r3, .inr (3, [.int g0, .int g1, .int g2, .int g3, .int g4, .int g5])), (r4, .inr (4, [.ref q0, .ref q1, .ref q2, .ref q3, .ref q4, .ref q5, .int cn])), (q0, .inl (cI, 300, .inl t0)), (q1, .inl (cI, 300, .inl t1)), (q2, .inl (cI, 300, .inl t2)), (q3, .inl (cI, 300, .inl t3)), (q4, .inl (cI, 300, .inl t4)), (q5, .inl (cI, 300, .inl t5))] sz) [(h0, .inr (2, [.ref r0, .ref r1, .ref r2, .ref r3, .ref r4, .int nc, .int ss, .int ib, .int li, .int (fX2_addSegment nc ss ib li ff fp nb a0 a1 a2 a3 a4 g0 g1 g2 g3 g4 g5 cn t0 t1 t2 t3 t4 t5).1, .int (fX2_addSegment nc ss ib li ff fp nb a0 a1 a2 a3 a4 g0 g1 g2 g3 g4 g5 cn t0 t1 t2 t3 t4 t5).2.1])), (r1, .inl (cJ, 5, .inr (.inl nb))), (r2, .inr (0, [.int (fX2_addSegment nc ss ib li ff fp nb a0 a1 a2 a3 a4 g0 g1 g2 g3 g4 g5 cn t0 t1 t2 t3 t4 t5).2.2.1, .int (fX2_addSegment nc ss ib li ff fp nb a0 a1 a2 a3 a4 g0 g1 g2 g3 g4 g5 cn t0 t1 t2 t3 t4 t5).2.2.2.1, .int (fX2_addSegment nc ss ib li ff fp nb a0 a1 a2 a3 a4 g0 g1 g2 g3 g4 g5 cn t0 t1 t2 t3 t4 t5).2.2.2.2.1, .int (fX2_addSegment nc ss ib li ff fp nb a0 a1 a2 a3 a4 g0 g1 g2 g3 g4 g5 cn t0 t1 t2 t3 t4 t5).2.2.2.2.2.1, .int (fX2_addSegment nc ss ib li ff fp nb a0 a1 a2 a3 a4 g0 g1 g2 g3 g4 g5 cn t0 t1 t2 t3 t4 t5).2.2.2.2.2.2.1])), (r3, .inr (3, [.int (fX2_addSegment nc ss ib li ff fp nb a0 a1 a2 a3 a4 g0 g1 g2 g3 g4 g5 cn t0 t1 t2 t3 t4 t5).2.2.2.2.2.2.2.1, .int (fX2_addSegment nc ss ib li ff fp nb a0 a1 a2 a3 a4 g0 g1 g2 g3 g4 g5 cn t0 t1 t2 t3 t4 t5).2.2.2.2.2.2.2.2.1, .int (fX2_addSegment nc ss ib li ff fp nb a0 a1 a2 a3 a4 g0 g1 g2 g3 g4 g5 cn t0 t1 t2 t3 t4 t5).2.2.2.2.2.2.2.2.2.1, .int (fX2_addSegment nc ss ib li ff fp nb a0 a1 a2 a3 a4 g0 g1 g2 g3 g4 g5 cn t0 t1 t2 t3 t4 t5).2.2.2.2.2.2.2.2.2.2.1, .int (fX2_addSegment nc ss ib li ff fp nb a0 a1 a2 a3 a4 g0 g1 g2 g3 g4 g5 cn t0 t1 t2 t3 t4 t5).2.2.2.2.2.2.2.2.2.2.2.1, .int (fX2_addSegment nc ss ib li ff fp nb a0 a1 a2 a3 a4 g0 g1 g2 g3 g4 g5 cn t0 t1 t2 t3 t4 t5).2.2.2.2.2.2.2.2.2.2.2.2.1])), (r4, .inr (4, [.ref q0, .ref q1, .ref q2, .ref q3, .ref q4, .ref q5, .int (fX2_addSegment nc ss ib li ff fp nb a0 a1 a2 a3 a4 g0 g1 g2 g3 g4 g5 cn t0 t1 t2 t3 t4 t5).2.2.2.2.2.2.2.2.2.2.2.2.2.1])), (q0, .inl (cI, 300, .inl (fX2_addSegment nc ss ib li ff fp nb a0 a1 a2 a3 a4 g0 g1 g2 g3 g4 g5 cn t0 t1 t2 t3 t4 t5).2.2.2.2.2.2.2.2.2.2.2.2.2.2.1)), (q1, .inl (cI, 300, .inl (fX2_addSegment nc ss ib li ff fp nb a0 a1 a2 a3 a4 g0 g1 g2 g3 g4 g5 cn t0 t1 t2 t3 t4 t5).2.2.2.2.2.2.2.2.2.2.2.2.2.2.2.1)), (q2, .inl (cI, 300, .inl (fX2_addSegment nc ss ib li ff fp nb a0 a1 a2 a3 a4 g0 g1 g2 g3 g4 g5 cn t0 t1 t2 t3 t4 t5).2.2.2.2.2.2.2.2.2.2.2.2.2.2.2.2.1)), (q3, .inl (cI, 300, .inl (fX2_addSegment nc ss ib li ff fp nb a0 a1 a2 a3 a4 g0 g1 g2 g3 g4 g5 cn t0 t1 t2 t3 t4 t5).2.2.2.2.2.2.2.2.2.2.2.2.2.2.2.2.2.1)), (q4, .inl (cI, 300, .inl (fX2_addSegment nc ss ib li ff fp nb a0 a1 a2 a3 a4 g0 g1 g2 g3 g4 g5 cn t0 t1 t2 t3 t4 t5).2.2.2.2.2.2.2.2.2.2.2.2.2.2.2.2.2.2.1)), (q5, .inl (cI, 300, .inl (fX2_addSegment nc ss ib li ff fp nb a0 a1 a2 a3 a4 g0 g1 g2 g3 g4 g5 cn t0 t1 t2 t3 t4 t5).2.2.2.2.2.2.2.2.2.2.2.2.2.2.2.2.2.2.2))]) (va_A [(h0, .inr (2, [.ref r0, .ref r1, .ref r2, .ref r3, .ref r4, .int nc, .int ss, .int ib, .int li, .int ff, .int fp])), (r1, .inl (cJ, 5, .inr (.inl nb))), (r2, .inr (0, [.int a0, .int a1, .int a2, .int a3, .int a4])), (r3, .inr (3, [.int g0, .int g1, .int g2, .int g3, .int g4, .int g5])), (r4, .inr (4, [.ref q0, .ref q1, .ref q2, .ref q3, .ref q4, .ref q5, .int cn])), (q0, .inl (cI, 300, .inl t0)), (q1, .inl (cI, 300, .inl t1)), (q2, .inl (cI, 300, .inl t2)), (q3, .inl (cI, 300, .inl t3)), (q4, .inl (cI, 300, .inl t4)), (q5, .inl (cI, 300, .inl t5))] sz)) 0 0 (va_A [(h0, .inr (2, [.ref r0, .ref r1, .ref r2, .ref r3, .ref r4, .int nc, .int ss, .int ib, .int li, .int ff, .int fp])), (r1, .inl (cJ, 5, .inr (.inl nb))), (r2, .inr (0, [.int a0, .int a1, .int a2, .int a3, .int a4])), (r3, .inr (3, [.int g0, .int g1, .int g2, .int g3, .int g4, .int g5])), (r4, .inr (4, [.ref q0, .ref q1, .ref q2, .ref q3, .ref q4, .ref q5, .int cn])), (q0, .inl (cI, 300, .inl t0)), (q1, .inl (cI, 300, .inl t1)), (q2, .inl (cI, 300, .inl t2)), (q3, .inl (cI, 300, .inl t3)), (q4, .inl (cI, 300, .inl t4)), (q5, .inl (cI, 300, .inl t5))] sz) := by
  refine Met.ofW (cc := cX2_addSegment) (maxL := 1) (ret := none) (by decide) rfl ?_
  intro p e s m args below meth c s₁ B hml hv
  obtain ⟨rfl, hsz, hP, hG, hD0⟩ := hv
  have hx := B.exec
  have hb := B.bytes
  have hr := B.returns
  have hts := atoms_spec (ws := wsX2_addSegment) B.pre
  have hown : s.vm.findClass RX2 = some m.cls := findClass_of_methodNamed B.named
  have hlocks := B.notSynchronized
  subst hsz
  have hD := hD0.self (sz := s.heap.size)
  generalize hAe : va_A [(h0, .inr (2, [.ref r0, .ref r1, .ref r2, .ref r3, .ref r4, .int nc, .int ss, .int ib, .int li, .int ff, .int fp])), (r1, .inl (cJ, 5, .inr (.inl nb))), (r2, .inr (0, [.int a0, .int a1, .int a2, .int a3, .int a4])), (r3, .inr (3, [.int g0, .int g1, .int g2, .int g3, .int g4, .int g5])), (r4, .inr (4, [.ref q0, .ref q1, .ref q2, .ref q3, .ref q4, .ref q5, .int cn])), (q0, .inl (cI, 300, .inl t0)), (q1, .inl (cI, 300, .inl t1)), (q2, .inl (cI, 300, .inl t2)), (q3, .inl (cI, 300, .inl t3)), (q4, .inl (cI, 300, .inl t4)), (q5, .inl (cI, 300, .inl t5))] s.heap.size = A at hD ⊢
  have hA : ∀ q : Nat, s.heap.size ≤ q → A q := fun q h => by rw [← hAe]; exact Or.inr h
  obtain ⟨H, hH⟩ : ∃ H : Heap, H = s.heap := ⟨_, rfl⟩
  have hS : va_S A s.heap H [] := by rw [hH]; exact va_S.rf
  rw [← hH] at hP ⊢
  generalize hR : fX2_addSegment nc ss ib li ff fp nb a0 a1 a2 a3 a4 g0 g1 g2 g3 g4 g5 cn t0 t1 t2 t3 t4 t5 = R
  unfold fX2_addSegment at hR
  have hl := lv_entry ([.ref h0]) (n := 1) (Nat.le_of_ble_eq_true rfl)
  rw [lg_entry_eq]
  generalize (lg_sl ([.ref h0]) ++ List.replicate (1 - (lg_sl ([.ref h0])).length) Slot.unset).toArray = ls at hl ⊢
  have hl : lv_has ls 1 [(0, .ref h0)] := hl
  refine lv_aload_n hx hb dX2_addSegment_0 rfl (lv_at hl 0 rfl) ?_
  refine va_get (D := (dC, dI)) (ci := 2) (v := .int nc) (C := RX2) (T := TX2) (N := 11) hx hb hts inc_X2_addSegment_2 hown hG.1 hP 0 rfl rfl 5 (by decide) (hts (.fieldLink RX2 76 "MappingDesk$Reader" "numberCount" "I") (by decide +kernel)) (fun _ h9 => h9) rfl dX2_addSegment_1 ?_
  refine lv_iconst (v := 1) hx hb dX2_addSegment_4 (by decide) ?_
  refine lv_icmp_eq (tgt := 36) hx hb dX2_addSegment_5 (by decide) (fun c_1 => ?_) (fun c_1 => ?_)
  · rw [if_pos c_1] at hR
    refine lv_aload_n hx hb dX2_addSegment_36 rfl (lv_at hl 0 rfl) ?_
    have hPc := hP.sub (ws' := [(h0, .inr (2, [.ref r0, .ref r1, .ref r2, .ref r3, .ref r4, .int nc, .int ss, .int ib, .int li, .int ff, .int fp])), (r1, .inl (cJ, 5, .inr (.inl nb))), (r2, .inr (0, [.int a0, .int a1, .int a2, .int a3, .int a4])), (r3, .inr (3, [.int g0, .int g1, .int g2, .int g3, .int g4, .int g5]))]) [0, 1, 2, 3] rfl
    have hDc := hD.sub (ws' := [(h0, .inr (2, [.ref r0, .ref r1, .ref r2, .ref r3, .ref r4, .int nc, .int ss, .int ib, .int li, .int ff, .int fp])), (r1, .inl (cJ, 5, .inr (.inl nb))), (r2, .inr (0, [.int a0, .int a1, .int a2, .int a3, .int a4])), (r3, .inr (3, [.int g0, .int g1, .int g2, .int g3, .int g4, .int g5]))]) [0, 1, 2, 3] (by decide) rfl
    have hFc := va_free (wc := [(h0, .inr (2, [.ref r0, .ref r1, .ref r2, .ref r3, .ref r4, .int nc, .int ss, .int ib, .int li, .int ff, .int fp])), (r1, .inl (cJ, 5, .inr (.inl nb))), (r2, .inr (0, [.int a0, .int a1, .int a2, .int a3, .int a4])), (r3, .inr (3, [.int g0, .int g1, .int g2, .int g3, .int g4, .int g5]))]) hD hS hA [0, 1, 2, 3] rfl
    refine va_calli (va_runV (As := []) (rest := []) ⟨hx, hb, hml, hown, hts⟩ (c_X2_addUp l dC dI cB cC cI cJ H.size h0 r0 r1 r2 r3 r4 nc ss ib li ff fp nb a0 a1 a2 a3 a4 g0 g1 g2 g3 g4 g5 ) (cwV 0 hts gX2_addSegment_X2_addUp rfl rfl rfl (by decide +kernel) ⟨(Nat.le_of_ble_eq_true rfl), (Nat.le_of_ble_eq_true rfl)⟩) ⟨cP_blind, va_recv hG.1 hPc (ci := 2) (q0 := 0) rfl rfl, cP_pre hPc hG hDc⟩ rfl rfl hl.1 rfl (lv_room (Nat.le_of_ble_eq_true rfl)) dX2_addSegment_37 ⟨Nat.le_of_ble_eq_true rfl, Nat.le_of_ble_eq_true rfl⟩) hS (fun q _ h => hFc q h) hFc (fun r_2v u t H1 locs ht hvm hw hB hz1 hk1 hS => ?_)
    obtain ⟨hP1, hD1⟩ := hB
    rw [ht] at hP1
    generalize hr_2 : fX2_addUp nc ss ib li ff fp nb a0 a1 a2 a3 a4 g0 g1 g2 g3 g4 g5 = r_2 at hP1 hD1 hw
    rw [bnd_eq hr_2] at hR
    subst hw
    obtain ⟨hP, hD⟩ := va_join (wr := [(r4, .inr (4, [.ref q0, .ref q1, .ref q2, .ref q3, .ref q4, .ref q5, .int cn])), (q0, .inl (cI, 300, .inl t0)), (q1, .inl (cI, 300, .inl t1)), (q2, .inl (cI, 300, .inl t2)), (q3, .inl (cI, 300, .inl t3)), (q4, .inl (cI, 300, .inl t4)), (q5, .inl (cI, 300, .inl t5))]) (w1 := [(h0, .inr (2, [.ref r0, .ref r1, .ref r2, .ref r3, .ref r4, .int nc, .int ss, .int ib, .int li, .int ff, .int fp])), (r1, .inl (cJ, 5, .inr (.inl nb))), (r2, .inr (0, [.int a0, .int a1, .int a2, .int a3, .int a4])), (r3, .inr (3, [.int r_2.2.1, .int r_2.2.2.1, .int r_2.2.2.2.1, .int r_2.2.2.2.2.1, .int r_2.2.2.2.2.2.1, .int r_2.2.2.2.2.2.2]))]) hP hD [0, 1, 2, 3] [4, 5, 6, 7, 8, 9, 10] rfl rfl (by decide) (by decide) hk1 hFc hP1 hD1
    generalize H1 = H at hP hS ⊢
    have hP := hP.sub (ws' := [(h0, .inr (2, [.ref r0, .ref r1, .ref r2, .ref r3, .ref r4, .int nc, .int ss, .int ib, .int li, .int ff, .int fp])), (r1, .inl (cJ, 5, .inr (.inl nb))), (r2, .inr (0, [.int a0, .int a1, .int a2, .int a3, .int a4])), (r3, .inr (3, [.int r_2.2.1, .int r_2.2.2.1, .int r_2.2.2.2.1, .int r_2.2.2.2.2.1, .int r_2.2.2.2.2.2.1, .int r_2.2.2.2.2.2.2])), (r4, .inr (4, [.ref q0, .ref q1, .ref q2, .ref q3, .ref q4, .ref q5, .int cn])), (q0, .inl (cI, 300, .inl t0)), (q1, .inl (cI, 300, .inl t1)), (q2, .inl (cI, 300, .inl t2)), (q3, .inl (cI, 300, .inl t3)), (q4, .inl (cI, 300, .inl t4)), (q5, .inl (cI, 300, .inl t5))]) [7, 8, 9, 10, 0, 1, 2, 3, 4, 5, 6] rfl
    have hD := hD.sub (ws' := [(h0, .inr (2, [.ref r0, .ref r1, .ref r2, .ref r3, .ref r4, .int nc, .int ss, .int ib, .int li, .int ff, .int fp])), (r1, .inl (cJ, 5, .inr (.inl nb))), (r2, .inr (0, [.int a0, .int a1, .int a2, .int a3, .int a4])), (r3, .inr (3, [.int r_2.2.1, .int r_2.2.2.1, .int r_2.2.2.2.1, .int r_2.2.2.2.2.1, .int r_2.2.2.2.2.2.1, .int r_2.2.2.2.2.2.2])), (r4, .inr (4, [.ref q0, .ref q1, .ref q2, .ref q3, .ref q4, .ref q5, .int cn])), (q0, .inl (cI, 300, .inl t0)), (q1, .inl (cI, 300, .inl t1)), (q2, .inl (cI, 300, .inl t2)), (q3, .inl (cI, 300, .inl t3)), (q4, .inl (cI, 300, .inl t4)), (q5, .inl (cI, 300, .inl t5))]) [7, 8, 9, 10, 0, 1, 2, 3, 4, 5, 6] (by decide) rfl
    refine lv_if_ne (tgt := 55) hx hb dX2_addSegment_40 (by decide) (fun c_3 => ?_) (fun c_3 => ?_)
    · rw [if_neg c_3] at hR
      refine lv_aload_n hx hb dX2_addSegment_55 rfl (lv_at hl 0 rfl) ?_
      refine va_get (D := (dC, dI)) (ci := 2) (v := .ref r4) (C := RX2) (T := TX2) (N := 11) hx hb hts inc_X2_addSegment_2 hown hG.1 hP 0 rfl rfl 4 (by decide) (hts (.fieldLink RX2 39 "MappingDesk$Reader" "filled" "LMappingDesk$Table;") (by decide +kernel)) (fun _ h9 => h9) rfl dX2_addSegment_56 ?_
      have hPc := hP.sub (ws' := [(r4, .inr (4, [.ref q0, .ref q1, .ref q2, .ref q3, .ref q4, .ref q5, .int cn]))]) [4] rfl
      have hDc := hD.sub (ws' := [(r4, .inr (4, [.ref q0, .ref q1, .ref q2, .ref q3, .ref q4, .ref q5, .int cn]))]) [4] (by decide) rfl
      refine vp_callSi (va_Run.run (va_runVN (C := RX4) (As := []) (rest := []) ⟨hx, hb, hml, hown, hts⟩ (c_X4_isFull l dC dI cB cC cI cJ H.size r4 q0 q1 q2 q3 q4 q5 cn ) ⟨va_cnB 0 hts gX2_addSegment_X4_isFull_n135 rfl rfl rfl (hG.nm (A := #[]) (w := .methodLinkNest RX2 135 yX4_isFull "MappingDesk") (by decide +kernel)) (hts (.initialized RX4) (by decide +kernel)) (by decide +kernel) ⟨(Nat.le_of_ble_eq_true rfl), (Nat.le_of_ble_eq_true rfl)⟩, hts (.instanceMethod yX4_isFull) (by decide +kernel), hts (.selects RX4 yX4_isFull yX4_isFull) (by decide +kernel)⟩ ⟨cP_blind, va_recv hG.1 hPc (ci := 4) (q0 := 0) rfl rfl, cP_pre hPc hG hDc⟩ rfl rfl hl.1 rfl (lv_room (Nat.le_of_ble_eq_true rfl)) dX2_addSegment_59 ⟨Nat.le_of_ble_eq_true rfl, Nat.le_of_ble_eq_true rfl⟩)) (fun r_4 hr_4 => ?_)
      rw [bnd_eq hr_4.symm] at hR
      refine lv_if_eq (tgt := 77) hx hb dX2_addSegment_62 (by decide) (fun c_5 => ?_) (fun c_5 => ?_)
      · rw [if_pos c_5] at hR
        refine lv_aload_n hx hb dX2_addSegment_77 rfl (lv_at hl 0 rfl) ?_
        refine va_get (D := (dC, dI)) (ci := 2) (v := .ref r4) (C := RX2) (T := TX2) (N := 11) hx hb hts inc_X2_addSegment_2 hown hG.1 hP 0 rfl rfl 4 (by decide) (hts (.fieldLink RX2 39 "MappingDesk$Reader" "filled" "LMappingDesk$Table;") (by decide +kernel)) (fun _ h9 => h9) rfl dX2_addSegment_78 ?_
        refine lv_aload_n hx hb dX2_addSegment_81 rfl (lv_at hl 0 rfl) ?_
        refine va_get (D := (dC, dI)) (ci := 2) (v := .ref r3) (C := RX2) (T := TX2) (N := 11) hx hb hts inc_X2_addSegment_2 hown hG.1 hP 0 rfl rfl 3 (by decide) (hts (.fieldLink RX2 32 "MappingDesk$Reader" "segment" "LMappingDesk$Segment;") (by decide +kernel)) (fun _ h9 => h9) rfl dX2_addSegment_82 ?_
        have p_6 : 0 ≤ cn.toInt := by
          first | exact hn0 | assumption
        have p_7 : cn.toInt ≤ 300 := by
          first | exact hn1 | assumption
        have hPc := hP.sub (ws' := [(r4, .inr (4, [.ref q0, .ref q1, .ref q2, .ref q3, .ref q4, .ref q5, .int cn])), (q0, .inl (cI, 300, .inl t0)), (q1, .inl (cI, 300, .inl t1)), (q2, .inl (cI, 300, .inl t2)), (q3, .inl (cI, 300, .inl t3)), (q4, .inl (cI, 300, .inl t4)), (q5, .inl (cI, 300, .inl t5)), (r3, .inr (3, [.int r_2.2.1, .int r_2.2.2.1, .int r_2.2.2.2.1, .int r_2.2.2.2.2.1, .int r_2.2.2.2.2.2.1, .int r_2.2.2.2.2.2.2]))]) [4, 5, 6, 7, 8, 9, 10, 3] rfl
        have hDc := hD.sub (ws' := [(r4, .inr (4, [.ref q0, .ref q1, .ref q2, .ref q3, .ref q4, .ref q5, .int cn])), (q0, .inl (cI, 300, .inl t0)), (q1, .inl (cI, 300, .inl t1)), (q2, .inl (cI, 300, .inl t2)), (q3, .inl (cI, 300, .inl t3)), (q4, .inl (cI, 300, .inl t4)), (q5, .inl (cI, 300, .inl t5)), (r3, .inr (3, [.int r_2.2.1, .int r_2.2.2.1, .int r_2.2.2.2.1, .int r_2.2.2.2.2.1, .int r_2.2.2.2.2.2.1, .int r_2.2.2.2.2.2.2]))]) [4, 5, 6, 7, 8, 9, 10, 3] (by decide) rfl
        have hFc := va_free (wc := [(r4, .inr (4, [.ref q0, .ref q1, .ref q2, .ref q3, .ref q4, .ref q5, .int cn])), (q0, .inl (cI, 300, .inl t0)), (q1, .inl (cI, 300, .inl t1)), (q2, .inl (cI, 300, .inl t2)), (q3, .inl (cI, 300, .inl t3)), (q4, .inl (cI, 300, .inl t4)), (q5, .inl (cI, 300, .inl t5)), (r3, .inr (3, [.int r_2.2.1, .int r_2.2.2.1, .int r_2.2.2.2.1, .int r_2.2.2.2.2.1, .int r_2.2.2.2.2.2.1, .int r_2.2.2.2.2.2.2]))]) hD hS hA [4, 5, 6, 7, 8, 9, 10, 3] rfl
        refine va_callv (va_runVN (C := RX4) (As := [.ref r3]) (rest := []) ⟨hx, hb, hml, hown, hts⟩ (c_X4_insert l dC dI cB cC cI cJ H.size r4 r3 q0 q1 q2 q3 q4 q5 cn t0 t1 t2 t3 t4 t5 r_2.2.1 r_2.2.2.1 r_2.2.2.2.1 r_2.2.2.2.2.1 r_2.2.2.2.2.2.1 r_2.2.2.2.2.2.2 p_6 p_7) ⟨va_cnB 1 hts gX2_addSegment_X4_insert_n138 rfl rfl rfl (hG.nm (A := #[]) (w := .methodLinkNest RX2 138 yX4_insert "MappingDesk") (by decide +kernel)) (hts (.initialized RX4) (by decide +kernel)) (by decide +kernel) ⟨(Nat.le_of_ble_eq_true rfl), (Nat.le_of_ble_eq_true rfl)⟩, hts (.instanceMethod yX4_insert) (by decide +kernel), hts (.selects RX4 yX4_insert yX4_insert) (by decide +kernel)⟩ ⟨cP_blind, va_recv hG.1 hPc (ci := 4) (q0 := 0) rfl rfl, cP_pre hPc hG hDc⟩ rfl rfl hl.1 rfl (lv_room (Nat.le_of_ble_eq_true rfl)) dX2_addSegment_85 ⟨Nat.le_of_ble_eq_true rfl, Nat.le_of_ble_eq_true rfl⟩) hS (fun q _ h => hFc q h) hFc (fun u t H1 locs ht hvm hw hB hz1 hk1 hS => ?_)
        obtain ⟨hP1, hD1⟩ := hB
        rw [ht] at hP1
        generalize hr_8 : fX4_insert cn t0 t1 t2 t3 t4 t5 r_2.2.1 r_2.2.2.1 r_2.2.2.2.1 r_2.2.2.2.2.1 r_2.2.2.2.2.2.1 r_2.2.2.2.2.2.2 = r_8 at hP1 hD1 hw
        have er_8_0 := hw
        rw [bnd_eq hr_8] at hR
        obtain ⟨hP, hD⟩ := va_join (wr := [(h0, .inr (2, [.ref r0, .ref r1, .ref r2, .ref r3, .ref r4, .int nc, .int ss, .int ib, .int li, .int ff, .int fp])), (r1, .inl (cJ, 5, .inr (.inl nb))), (r2, .inr (0, [.int a0, .int a1, .int a2, .int a3, .int a4]))]) (w1 := [(r4, .inr (4, [.ref q0, .ref q1, .ref q2, .ref q3, .ref q4, .ref q5, .int r_8.1])), (q0, .inl (cI, 300, .inl r_8.2.1)), (q1, .inl (cI, 300, .inl r_8.2.2.1)), (q2, .inl (cI, 300, .inl r_8.2.2.2.1)), (q3, .inl (cI, 300, .inl r_8.2.2.2.2.1)), (q4, .inl (cI, 300, .inl r_8.2.2.2.2.2.1)), (q5, .inl (cI, 300, .inl r_8.2.2.2.2.2.2)), (r3, .inr (3, [.int r_2.2.1, .int r_2.2.2.1, .int r_2.2.2.2.1, .int r_2.2.2.2.2.1, .int r_2.2.2.2.2.2.1, .int r_2.2.2.2.2.2.2]))]) hP hD [4, 5, 6, 7, 8, 9, 10, 3] [0, 1, 2] rfl rfl (by decide) (by decide) hk1 hFc hP1 hD1
        generalize H1 = H at hP hS ⊢
        have hP := hP.sub (ws' := [(h0, .inr (2, [.ref r0, .ref r1, .ref r2, .ref r3, .ref r4, .int nc, .int ss, .int ib, .int li, .int ff, .int fp])), (r1, .inl (cJ, 5, .inr (.inl nb))), (r2, .inr (0, [.int a0, .int a1, .int a2, .int a3, .int a4])), (r3, .inr (3, [.int r_2.2.1, .int r_2.2.2.1, .int r_2.2.2.2.1, .int r_2.2.2.2.2.1, .int r_2.2.2.2.2.2.1, .int r_2.2.2.2.2.2.2])), (r4, .inr (4, [.ref q0, .ref q1, .ref q2, .ref q3, .ref q4, .ref q5, .int r_8.1])), (q0, .inl (cI, 300, .inl r_8.2.1)), (q1, .inl (cI, 300, .inl r_8.2.2.1)), (q2, .inl (cI, 300, .inl r_8.2.2.2.1)), (q3, .inl (cI, 300, .inl r_8.2.2.2.2.1)), (q4, .inl (cI, 300, .inl r_8.2.2.2.2.2.1)), (q5, .inl (cI, 300, .inl r_8.2.2.2.2.2.2))]) [0, 1, 2, 10, 3, 4, 5, 6, 7, 8, 9] rfl
        have hD := hD.sub (ws' := [(h0, .inr (2, [.ref r0, .ref r1, .ref r2, .ref r3, .ref r4, .int nc, .int ss, .int ib, .int li, .int ff, .int fp])), (r1, .inl (cJ, 5, .inr (.inl nb))), (r2, .inr (0, [.int a0, .int a1, .int a2, .int a3, .int a4])), (r3, .inr (3, [.int r_2.2.1, .int r_2.2.2.1, .int r_2.2.2.2.1, .int r_2.2.2.2.2.1, .int r_2.2.2.2.2.2.1, .int r_2.2.2.2.2.2.2])), (r4, .inr (4, [.ref q0, .ref q1, .ref q2, .ref q3, .ref q4, .ref q5, .int r_8.1])), (q0, .inl (cI, 300, .inl r_8.2.1)), (q1, .inl (cI, 300, .inl r_8.2.2.1)), (q2, .inl (cI, 300, .inl r_8.2.2.2.1)), (q3, .inl (cI, 300, .inl r_8.2.2.2.2.1)), (q4, .inl (cI, 300, .inl r_8.2.2.2.2.2.1)), (q5, .inl (cI, 300, .inl r_8.2.2.2.2.2.2))]) [0, 1, 2, 10, 3, 4, 5, 6, 7, 8, 9] (by decide) rfl
        refine lv_aload_n hx hb dX2_addSegment_88 rfl (lv_at hl 0 rfl) ?_
        refine va_get (D := (dC, dI)) (ci := 2) (v := .ref r2) (C := RX2) (T := TX2) (N := 11) hx hb hts inc_X2_addSegment_2 hown hG.1 hP 0 rfl rfl 2 (by decide) (hts (.fieldLink RX2 25 "MappingDesk$Reader" "ahead" "LMappingDesk$Ahead;") (by decide +kernel)) (fun _ h9 => h9) rfl dX2_addSegment_89 ?_
        refine lv_aload_n hx hb dX2_addSegment_92 rfl (lv_at hl 0 rfl) ?_
        refine va_get (D := (dC, dI)) (ci := 2) (v := .ref r3) (C := RX2) (T := TX2) (N := 11) hx hb hts inc_X2_addSegment_2 hown hG.1 hP 0 rfl rfl 3 (by decide) (hts (.fieldLink RX2 32 "MappingDesk$Reader" "segment" "LMappingDesk$Segment;") (by decide +kernel)) (fun _ h9 => h9) rfl dX2_addSegment_93 ?_
        have hPc := hP.sub (ws' := [(r2, .inr (0, [.int a0, .int a1, .int a2, .int a3, .int a4])), (r3, .inr (3, [.int r_2.2.1, .int r_2.2.2.1, .int r_2.2.2.2.1, .int r_2.2.2.2.2.1, .int r_2.2.2.2.2.2.1, .int r_2.2.2.2.2.2.2]))]) [2, 3] rfl
        have hDc := hD.sub (ws' := [(r2, .inr (0, [.int a0, .int a1, .int a2, .int a3, .int a4])), (r3, .inr (3, [.int r_2.2.1, .int r_2.2.2.1, .int r_2.2.2.2.1, .int r_2.2.2.2.2.1, .int r_2.2.2.2.2.2.1, .int r_2.2.2.2.2.2.2]))]) [2, 3] (by decide) rfl
        have hFc := va_free (wc := [(r2, .inr (0, [.int a0, .int a1, .int a2, .int a3, .int a4])), (r3, .inr (3, [.int r_2.2.1, .int r_2.2.2.1, .int r_2.2.2.2.1, .int r_2.2.2.2.2.1, .int r_2.2.2.2.2.2.1, .int r_2.2.2.2.2.2.2]))]) hD hS hA [2, 3] rfl
        refine va_callv (va_runVN (C := RX0) (As := [.ref r3]) (rest := []) ⟨hx, hb, hml, hown, hts⟩ (c_X0_pass l dC dI cB cC cI cJ H.size r2 r3 a0 a1 a2 a3 a4 r_2.2.1 r_2.2.2.1 r_2.2.2.2.1 r_2.2.2.2.2.1 r_2.2.2.2.2.2.1 r_2.2.2.2.2.2.2 ) ⟨va_cnB 1 hts gX2_addSegment_X0_pass_n142 rfl rfl rfl (hG.nm (A := #[]) (w := .methodLinkNest RX2 142 yX0_pass "MappingDesk") (by decide +kernel)) (hts (.initialized RX0) (by decide +kernel)) (by decide +kernel) ⟨(Nat.le_of_ble_eq_true rfl), (Nat.le_of_ble_eq_true rfl)⟩, hts (.instanceMethod yX0_pass) (by decide +kernel), hts (.selects RX0 yX0_pass yX0_pass) (by decide +kernel)⟩ ⟨cP_blind, va_recv hG.1 hPc (ci := 0) (q0 := 0) rfl rfl, cP_pre hPc hG hDc⟩ rfl rfl hl.1 rfl (lv_room (Nat.le_of_ble_eq_true rfl)) dX2_addSegment_96 ⟨Nat.le_of_ble_eq_true rfl, Nat.le_of_ble_eq_true rfl⟩) hS (fun q _ h => hFc q h) hFc (fun u t H1 locs ht hvm hw hB hz1 hk1 hS => ?_)
        obtain ⟨hP1, hD1⟩ := hB
        rw [ht] at hP1
        generalize hr_9 : fX0_pass a0 a1 a2 a3 a4 r_2.2.1 r_2.2.2.1 r_2.2.2.2.1 r_2.2.2.2.2.1 r_2.2.2.2.2.2.1 r_2.2.2.2.2.2.2 = r_9 at hP1 hD1
        rw [bnd_eq hr_9] at hR
        obtain ⟨hP, hD⟩ := va_join (wr := [(h0, .inr (2, [.ref r0, .ref r1, .ref r2, .ref r3, .ref r4, .int nc, .int ss, .int ib, .int li, .int ff, .int fp])), (r1, .inl (cJ, 5, .inr (.inl nb))), (r4, .inr (4, [.ref q0, .ref q1, .ref q2, .ref q3, .ref q4, .ref q5, .int r_8.1])), (q0, .inl (cI, 300, .inl r_8.2.1)), (q1, .inl (cI, 300, .inl r_8.2.2.1)), (q2, .inl (cI, 300, .inl r_8.2.2.2.1)), (q3, .inl (cI, 300, .inl r_8.2.2.2.2.1)), (q4, .inl (cI, 300, .inl r_8.2.2.2.2.2.1)), (q5, .inl (cI, 300, .inl r_8.2.2.2.2.2.2))]) (w1 := [(r2, .inr (0, [.int r_9.1, .int r_9.2.1, .int r_9.2.2.1, .int r_9.2.2.2.1, .int r_9.2.2.2.2])), (r3, .inr (3, [.int r_2.2.1, .int r_2.2.2.1, .int r_2.2.2.2.1, .int r_2.2.2.2.2.1, .int r_2.2.2.2.2.2.1, .int r_2.2.2.2.2.2.2]))]) hP hD [2, 3] [0, 1, 4, 5, 6, 7, 8, 9, 10] rfl rfl (by decide) (by decide) hk1 hFc hP1 hD1
        generalize H1 = H at hP hS ⊢
        have hP := hP.sub (ws' := [(h0, .inr (2, [.ref r0, .ref r1, .ref r2, .ref r3, .ref r4, .int nc, .int ss, .int ib, .int li, .int ff, .int fp])), (r1, .inl (cJ, 5, .inr (.inl nb))), (r2, .inr (0, [.int r_9.1, .int r_9.2.1, .int r_9.2.2.1, .int r_9.2.2.2.1, .int r_9.2.2.2.2])), (r3, .inr (3, [.int r_2.2.1, .int r_2.2.2.1, .int r_2.2.2.2.1, .int r_2.2.2.2.2.1, .int r_2.2.2.2.2.2.1, .int r_2.2.2.2.2.2.2])), (r4, .inr (4, [.ref q0, .ref q1, .ref q2, .ref q3, .ref q4, .ref q5, .int r_8.1])), (q0, .inl (cI, 300, .inl r_8.2.1)), (q1, .inl (cI, 300, .inl r_8.2.2.1)), (q2, .inl (cI, 300, .inl r_8.2.2.2.1)), (q3, .inl (cI, 300, .inl r_8.2.2.2.2.1)), (q4, .inl (cI, 300, .inl r_8.2.2.2.2.2.1)), (q5, .inl (cI, 300, .inl r_8.2.2.2.2.2.2))]) [0, 1, 9, 10, 2, 3, 4, 5, 6, 7, 8] rfl
        have hD := hD.sub (ws' := [(h0, .inr (2, [.ref r0, .ref r1, .ref r2, .ref r3, .ref r4, .int nc, .int ss, .int ib, .int li, .int ff, .int fp])), (r1, .inl (cJ, 5, .inr (.inl nb))), (r2, .inr (0, [.int r_9.1, .int r_9.2.1, .int r_9.2.2.1, .int r_9.2.2.2.1, .int r_9.2.2.2.2])), (r3, .inr (3, [.int r_2.2.1, .int r_2.2.2.1, .int r_2.2.2.2.1, .int r_2.2.2.2.2.1, .int r_2.2.2.2.2.2.1, .int r_2.2.2.2.2.2.2])), (r4, .inr (4, [.ref q0, .ref q1, .ref q2, .ref q3, .ref q4, .ref q5, .int r_8.1])), (q0, .inl (cI, 300, .inl r_8.2.1)), (q1, .inl (cI, 300, .inl r_8.2.2.1)), (q2, .inl (cI, 300, .inl r_8.2.2.2.1)), (q3, .inl (cI, 300, .inl r_8.2.2.2.2.1)), (q4, .inl (cI, 300, .inl r_8.2.2.2.2.2.1)), (q5, .inl (cI, 300, .inl r_8.2.2.2.2.2.2))]) [0, 1, 9, 10, 2, 3, 4, 5, 6, 7, 8] (by decide) rfl
        have e_10 : 0 ≤ (r_8.1 : Int32).toInt ∧ (r_8.1 : Int32).toInt ≤ 300 := by
          have k_11 : (1 : Int32).toInt = 1 := by decide
          have q_12 := i_eq c_1
          have k_13 : (0 : Int32).toInt = 0 := by decide
          have q_14 := i_ne c_3
          have q_15 := i_eq c_5
          try generalize Int32.toInt r_2.1 = z0 at *
          try generalize Int32.toInt r_8.1 = z1 at *
          try generalize Int32.toInt r_4 = z2 at *
          try generalize Int32.toInt cn = z3 at *
          try generalize Int32.toInt nc = z4 at *
          try generalize Int32.toInt (0 : Int32) = z5 at *
          try generalize Int32.toInt (1 : Int32) = z6 at *
          omega
        subst hR
        exact W.vret hx hb hr (fun t ht hW => ⟨⟨(), rfl, e_10, by rw [ht]; exact hP, hD⟩, hS.F ht⟩) hS.2.2 dX2_addSegment_99
      · rw [if_neg c_5] at hR
        refine lv_aload_n hx hb dX2_addSegment_65 rfl (lv_at hl 0 rfl) ?_
        refine lv_iconst (v := 5) hx hb dX2_addSegment_66 (by decide) ?_
        refine lv_aload_n hx hb dX2_addSegment_67 rfl (lv_at hl 0 rfl) ?_
        refine va_get (D := (dC, dI)) (ci := 2) (v := .int ss) (C := RX2) (T := TX2) (N := 11) hx hb hts inc_X2_addSegment_2 hown hG.1 hP 0 rfl rfl 6 (by decide) (hts (.fieldLink RX2 79 "MappingDesk$Reader" "segmentStart" "I") (by decide +kernel)) (fun _ h9 => h9) rfl dX2_addSegment_68 ?_
        have hPc := hP.sub (ws' := [(h0, .inr (2, [.ref r0, .ref r1, .ref r2, .ref r3, .ref r4, .int nc, .int ss, .int ib, .int li, .int ff, .int fp]))]) [0] rfl
        have hDc := hD.sub (ws' := [(h0, .inr (2, [.ref r0, .ref r1, .ref r2, .ref r3, .ref r4, .int nc, .int ss, .int ib, .int li, .int ff, .int fp]))]) [0] (by decide) rfl
        have hFc := va_free (wc := [(h0, .inr (2, [.ref r0, .ref r1, .ref r2, .ref r3, .ref r4, .int nc, .int ss, .int ib, .int li, .int ff, .int fp]))]) hD hS hA [0] rfl
        refine va_callv (va_runV (As := [.int 5, .int ss]) (rest := []) ⟨hx, hb, hml, hown, hts⟩ (c_X2_refuse l dC dI cB cC cI cJ H.size h0 r0 r1 r2 r3 r4 nc ss ib li ff fp 5 ss ) (cwV 2 hts gX2_addSegment_X2_refuse rfl rfl rfl (by decide +kernel) ⟨(Nat.le_of_ble_eq_true rfl), (Nat.le_of_ble_eq_true rfl)⟩) ⟨cP_blind, va_recv hG.1 hPc (ci := 2) (q0 := 0) rfl rfl, cP_pre hPc hG hDc⟩ rfl rfl hl.1 rfl (lv_room (Nat.le_of_ble_eq_true rfl)) dX2_addSegment_71 ⟨Nat.le_of_ble_eq_true rfl, Nat.le_of_ble_eq_true rfl⟩) hS (fun q _ h => hFc q h) hFc (fun u t H1 locs ht hvm hw hB hz1 hk1 hS => ?_)
        obtain ⟨hP1, hD1⟩ := hB
        rw [ht] at hP1
        generalize hr_16 : fX2_refuse nc ss ib li ff fp 5 ss = r_16 at hP1 hD1
        rw [bnd_eq hr_16] at hR
        obtain ⟨hP, hD⟩ := va_join (wr := [(r1, .inl (cJ, 5, .inr (.inl nb))), (r2, .inr (0, [.int a0, .int a1, .int a2, .int a3, .int a4])), (r3, .inr (3, [.int r_2.2.1, .int r_2.2.2.1, .int r_2.2.2.2.1, .int r_2.2.2.2.2.1, .int r_2.2.2.2.2.2.1, .int r_2.2.2.2.2.2.2])), (r4, .inr (4, [.ref q0, .ref q1, .ref q2, .ref q3, .ref q4, .ref q5, .int cn])), (q0, .inl (cI, 300, .inl t0)), (q1, .inl (cI, 300, .inl t1)), (q2, .inl (cI, 300, .inl t2)), (q3, .inl (cI, 300, .inl t3)), (q4, .inl (cI, 300, .inl t4)), (q5, .inl (cI, 300, .inl t5))]) (w1 := [(h0, .inr (2, [.ref r0, .ref r1, .ref r2, .ref r3, .ref r4, .int nc, .int ss, .int ib, .int li, .int r_16.1, .int r_16.2]))]) hP hD [0] [1, 2, 3, 4, 5, 6, 7, 8, 9, 10] rfl rfl (by decide) (by decide) hk1 hFc hP1 hD1
        generalize H1 = H at hP hS ⊢
        have hP := hP.sub (ws' := [(h0, .inr (2, [.ref r0, .ref r1, .ref r2, .ref r3, .ref r4, .int nc, .int ss, .int ib, .int li, .int r_16.1, .int r_16.2])), (r1, .inl (cJ, 5, .inr (.inl nb))), (r2, .inr (0, [.int a0, .int a1, .int a2, .int a3, .int a4])), (r3, .inr (3, [.int r_2.2.1, .int r_2.2.2.1, .int r_2.2.2.2.1, .int r_2.2.2.2.2.1, .int r_2.2.2.2.2.2.1, .int r_2.2.2.2.2.2.2])), (r4, .inr (4, [.ref q0, .ref q1, .ref q2, .ref q3, .ref q4, .ref q5, .int cn])), (q0, .inl (cI, 300, .inl t0)), (q1, .inl (cI, 300, .inl t1)), (q2, .inl (cI, 300, .inl t2)), (q3, .inl (cI, 300, .inl t3)), (q4, .inl (cI, 300, .inl t4)), (q5, .inl (cI, 300, .inl t5))]) [10, 0, 1, 2, 3, 4, 5, 6, 7, 8, 9] rfl
        have hD := hD.sub (ws' := [(h0, .inr (2, [.ref r0, .ref r1, .ref r2, .ref r3, .ref r4, .int nc, .int ss, .int ib, .int li, .int r_16.1, .int r_16.2])), (r1, .inl (cJ, 5, .inr (.inl nb))), (r2, .inr (0, [.int a0, .int a1, .int a2, .int a3, .int a4])), (r3, .inr (3, [.int r_2.2.1, .int r_2.2.2.1, .int r_2.2.2.2.1, .int r_2.2.2.2.2.1, .int r_2.2.2.2.2.2.1, .int r_2.2.2.2.2.2.2])), (r4, .inr (4, [.ref q0, .ref q1, .ref q2, .ref q3, .ref q4, .ref q5, .int cn])), (q0, .inl (cI, 300, .inl t0)), (q1, .inl (cI, 300, .inl t1)), (q2, .inl (cI, 300, .inl t2)), (q3, .inl (cI, 300, .inl t3)), (q4, .inl (cI, 300, .inl t4)), (q5, .inl (cI, 300, .inl t5))]) [10, 0, 1, 2, 3, 4, 5, 6, 7, 8, 9] (by decide) rfl
        refine lv_goto (tgt := 99) hx hb dX2_addSegment_74 (by decide) ?_
        have e_17 : 0 ≤ (cn : Int32).toInt ∧ (cn : Int32).toInt ≤ 300 := by
          have k_18 : (1 : Int32).toInt = 1 := by decide
          have q_19 := i_eq c_1
          have k_20 : (0 : Int32).toInt = 0 := by decide
          have q_21 := i_ne c_3
          have q_22 := i_ne c_5
          try generalize Int32.toInt r_2.1 = z0 at *
          try generalize Int32.toInt r_4 = z1 at *
          try generalize Int32.toInt cn = z2 at *
          try generalize Int32.toInt nc = z3 at *
          try generalize Int32.toInt (0 : Int32) = z4 at *
          try generalize Int32.toInt (1 : Int32) = z5 at *
          omega
        subst hR
        exact W.vret hx hb hr (fun t ht hW => ⟨⟨(), rfl, e_17, by rw [ht]; exact hP, hD⟩, hS.F ht⟩) hS.2.2 dX2_addSegment_99
    · rw [if_pos c_3] at hR
      refine lv_aload_n hx hb dX2_addSegment_43 rfl (lv_at hl 0 rfl) ?_
      refine lv_iconst (v := 4) hx hb dX2_addSegment_44 (by decide) ?_
      refine lv_aload_n hx hb dX2_addSegment_45 rfl (lv_at hl 0 rfl) ?_
      refine va_get (D := (dC, dI)) (ci := 2) (v := .int ss) (C := RX2) (T := TX2) (N := 11) hx hb hts inc_X2_addSegment_2 hown hG.1 hP 0 rfl rfl 6 (by decide) (hts (.fieldLink RX2 79 "MappingDesk$Reader" "segmentStart" "I") (by decide +kernel)) (fun _ h9 => h9) rfl dX2_addSegment_46 ?_
      have hPc := hP.sub (ws' := [(h0, .inr (2, [.ref r0, .ref r1, .ref r2, .ref r3, .ref r4, .int nc, .int ss, .int ib, .int li, .int ff, .int fp]))]) [0] rfl
      have hDc := hD.sub (ws' := [(h0, .inr (2, [.ref r0, .ref r1, .ref r2, .ref r3, .ref r4, .int nc, .int ss, .int ib, .int li, .int ff, .int fp]))]) [0] (by decide) rfl
      have hFc := va_free (wc := [(h0, .inr (2, [.ref r0, .ref r1, .ref r2, .ref r3, .ref r4, .int nc, .int ss, .int ib, .int li, .int ff, .int fp]))]) hD hS hA [0] rfl
      refine va_callv (va_runV (As := [.int 4, .int ss]) (rest := []) ⟨hx, hb, hml, hown, hts⟩ (c_X2_refuse l dC dI cB cC cI cJ H.size h0 r0 r1 r2 r3 r4 nc ss ib li ff fp 4 ss ) (cwV 2 hts gX2_addSegment_X2_refuse rfl rfl rfl (by decide +kernel) ⟨(Nat.le_of_ble_eq_true rfl), (Nat.le_of_ble_eq_true rfl)⟩) ⟨cP_blind, va_recv hG.1 hPc (ci := 2) (q0 := 0) rfl rfl, cP_pre hPc hG hDc⟩ rfl rfl hl.1 rfl (lv_room (Nat.le_of_ble_eq_true rfl)) dX2_addSegment_49 ⟨Nat.le_of_ble_eq_true rfl, Nat.le_of_ble_eq_true rfl⟩) hS (fun q _ h => hFc q h) hFc (fun u t H1 locs ht hvm hw hB hz1 hk1 hS => ?_)
      obtain ⟨hP1, hD1⟩ := hB
      rw [ht] at hP1
      generalize hr_23 : fX2_refuse nc ss ib li ff fp 4 ss = r_23 at hP1 hD1
      rw [bnd_eq hr_23] at hR
      obtain ⟨hP, hD⟩ := va_join (wr := [(r1, .inl (cJ, 5, .inr (.inl nb))), (r2, .inr (0, [.int a0, .int a1, .int a2, .int a3, .int a4])), (r3, .inr (3, [.int r_2.2.1, .int r_2.2.2.1, .int r_2.2.2.2.1, .int r_2.2.2.2.2.1, .int r_2.2.2.2.2.2.1, .int r_2.2.2.2.2.2.2])), (r4, .inr (4, [.ref q0, .ref q1, .ref q2, .ref q3, .ref q4, .ref q5, .int cn])), (q0, .inl (cI, 300, .inl t0)), (q1, .inl (cI, 300, .inl t1)), (q2, .inl (cI, 300, .inl t2)), (q3, .inl (cI, 300, .inl t3)), (q4, .inl (cI, 300, .inl t4)), (q5, .inl (cI, 300, .inl t5))]) (w1 := [(h0, .inr (2, [.ref r0, .ref r1, .ref r2, .ref r3, .ref r4, .int nc, .int ss, .int ib, .int li, .int r_23.1, .int r_23.2]))]) hP hD [0] [1, 2, 3, 4, 5, 6, 7, 8, 9, 10] rfl rfl (by decide) (by decide) hk1 hFc hP1 hD1
      generalize H1 = H at hP hS ⊢
      have hP := hP.sub (ws' := [(h0, .inr (2, [.ref r0, .ref r1, .ref r2, .ref r3, .ref r4, .int nc, .int ss, .int ib, .int li, .int r_23.1, .int r_23.2])), (r1, .inl (cJ, 5, .inr (.inl nb))), (r2, .inr (0, [.int a0, .int a1, .int a2, .int a3, .int a4])), (r3, .inr (3, [.int r_2.2.1, .int r_2.2.2.1, .int r_2.2.2.2.1, .int r_2.2.2.2.2.1, .int r_2.2.2.2.2.2.1, .int r_2.2.2.2.2.2.2])), (r4, .inr (4, [.ref q0, .ref q1, .ref q2, .ref q3, .ref q4, .ref q5, .int cn])), (q0, .inl (cI, 300, .inl t0)), (q1, .inl (cI, 300, .inl t1)), (q2, .inl (cI, 300, .inl t2)), (q3, .inl (cI, 300, .inl t3)), (q4, .inl (cI, 300, .inl t4)), (q5, .inl (cI, 300, .inl t5))]) [10, 0, 1, 2, 3, 4, 5, 6, 7, 8, 9] rfl
      have hD := hD.sub (ws' := [(h0, .inr (2, [.ref r0, .ref r1, .ref r2, .ref r3, .ref r4, .int nc, .int ss, .int ib, .int li, .int r_23.1, .int r_23.2])), (r1, .inl (cJ, 5, .inr (.inl nb))), (r2, .inr (0, [.int a0, .int a1, .int a2, .int a3, .int a4])), (r3, .inr (3, [.int r_2.2.1, .int r_2.2.2.1, .int r_2.2.2.2.1, .int r_2.2.2.2.2.1, .int r_2.2.2.2.2.2.1, .int r_2.2.2.2.2.2.2])), (r4, .inr (4, [.ref q0, .ref q1, .ref q2, .ref q3, .ref q4, .ref q5, .int cn])), (q0, .inl (cI, 300, .inl t0)), (q1, .inl (cI, 300, .inl t1)), (q2, .inl (cI, 300, .inl t2)), (q3, .inl (cI, 300, .inl t3)), (q4, .inl (cI, 300, .inl t4)), (q5, .inl (cI, 300, .inl t5))]) [10, 0, 1, 2, 3, 4, 5, 6, 7, 8, 9] (by decide) rfl
      refine lv_goto (tgt := 99) hx hb dX2_addSegment_52 (by decide) ?_
      have e_24 : 0 ≤ (cn : Int32).toInt ∧ (cn : Int32).toInt ≤ 300 := by
        have k_25 : (1 : Int32).toInt = 1 := by decide
        have q_26 := i_eq c_1
        have k_27 : (0 : Int32).toInt = 0 := by decide
        have q_28 := i_eq c_3
        try generalize Int32.toInt r_2.1 = z0 at *
        try generalize Int32.toInt cn = z1 at *
        try generalize Int32.toInt nc = z2 at *
        try generalize Int32.toInt (0 : Int32) = z3 at *
        try generalize Int32.toInt (1 : Int32) = z4 at *
        omega
      subst hR
      exact W.vret hx hb hr (fun t ht hW => ⟨⟨(), rfl, e_24, by rw [ht]; exact hP, hD⟩, hS.F ht⟩) hS.2.2 dX2_addSegment_99
  · rw [if_neg c_1] at hR
    refine lv_aload_n hx hb dX2_addSegment_8 rfl (lv_at hl 0 rfl) ?_
    refine va_get (D := (dC, dI)) (ci := 2) (v := .int nc) (C := RX2) (T := TX2) (N := 11) hx hb hts inc_X2_addSegment_2 hown hG.1 hP 0 rfl rfl 5 (by decide) (hts (.fieldLink RX2 76 "MappingDesk$Reader" "numberCount" "I") (by decide +kernel)) (fun _ h9 => h9) rfl dX2_addSegment_9 ?_
    refine lv_iconst (v := 4) hx hb dX2_addSegment_12 (by decide) ?_
    refine lv_icmp_eq (tgt := 36) hx hb dX2_addSegment_13 (by decide) (fun c_29 => ?_) (fun c_29 => ?_)
    · rw [if_pos c_29] at hR
      refine lv_aload_n hx hb dX2_addSegment_36 rfl (lv_at hl 0 rfl) ?_
      have hPc := hP.sub (ws' := [(h0, .inr (2, [.ref r0, .ref r1, .ref r2, .ref r3, .ref r4, .int nc, .int ss, .int ib, .int li, .int ff, .int fp])), (r1, .inl (cJ, 5, .inr (.inl nb))), (r2, .inr (0, [.int a0, .int a1, .int a2, .int a3, .int a4])), (r3, .inr (3, [.int g0, .int g1, .int g2, .int g3, .int g4, .int g5]))]) [0, 1, 2, 3] rfl
      have hDc := hD.sub (ws' := [(h0, .inr (2, [.ref r0, .ref r1, .ref r2, .ref r3, .ref r4, .int nc, .int ss, .int ib, .int li, .int ff, .int fp])), (r1, .inl (cJ, 5, .inr (.inl nb))), (r2, .inr (0, [.int a0, .int a1, .int a2, .int a3, .int a4])), (r3, .inr (3, [.int g0, .int g1, .int g2, .int g3, .int g4, .int g5]))]) [0, 1, 2, 3] (by decide) rfl
      have hFc := va_free (wc := [(h0, .inr (2, [.ref r0, .ref r1, .ref r2, .ref r3, .ref r4, .int nc, .int ss, .int ib, .int li, .int ff, .int fp])), (r1, .inl (cJ, 5, .inr (.inl nb))), (r2, .inr (0, [.int a0, .int a1, .int a2, .int a3, .int a4])), (r3, .inr (3, [.int g0, .int g1, .int g2, .int g3, .int g4, .int g5]))]) hD hS hA [0, 1, 2, 3] rfl
      refine va_calli (va_runV (As := []) (rest := []) ⟨hx, hb, hml, hown, hts⟩ (c_X2_addUp l dC dI cB cC cI cJ H.size h0 r0 r1 r2 r3 r4 nc ss ib li ff fp nb a0 a1 a2 a3 a4 g0 g1 g2 g3 g4 g5 ) (cwV 0 hts gX2_addSegment_X2_addUp rfl rfl rfl (by decide +kernel) ⟨(Nat.le_of_ble_eq_true rfl), (Nat.le_of_ble_eq_true rfl)⟩) ⟨cP_blind, va_recv hG.1 hPc (ci := 2) (q0 := 0) rfl rfl, cP_pre hPc hG hDc⟩ rfl rfl hl.1 rfl (lv_room (Nat.le_of_ble_eq_true rfl)) dX2_addSegment_37 ⟨Nat.le_of_ble_eq_true rfl, Nat.le_of_ble_eq_true rfl⟩) hS (fun q _ h => hFc q h) hFc (fun r_30v u t H1 locs ht hvm hw hB hz1 hk1 hS => ?_)
      obtain ⟨hP1, hD1⟩ := hB
      rw [ht] at hP1
      generalize hr_30 : fX2_addUp nc ss ib li ff fp nb a0 a1 a2 a3 a4 g0 g1 g2 g3 g4 g5 = r_30 at hP1 hD1 hw
      rw [bnd_eq hr_30] at hR
      subst hw
      obtain ⟨hP, hD⟩ := va_join (wr := [(r4, .inr (4, [.ref q0, .ref q1, .ref q2, .ref q3, .ref q4, .ref q5, .int cn])), (q0, .inl (cI, 300, .inl t0)), (q1, .inl (cI, 300, .inl t1)), (q2, .inl (cI, 300, .inl t2)), (q3, .inl (cI, 300, .inl t3)), (q4, .inl (cI, 300, .inl t4)), (q5, .inl (cI, 300, .inl t5))]) (w1 := [(h0, .inr (2, [.ref r0, .ref r1, .ref r2, .ref r3, .ref r4, .int nc, .int ss, .int ib, .int li, .int ff, .int fp])), (r1, .inl (cJ, 5, .inr (.inl nb))), (r2, .inr (0, [.int a0, .int a1, .int a2, .int a3, .int a4])), (r3, .inr (3, [.int r_30.2.1, .int r_30.2.2.1, .int r_30.2.2.2.1, .int r_30.2.2.2.2.1, .int r_30.2.2.2.2.2.1, .int r_30.2.2.2.2.2.2]))]) hP hD [0, 1, 2, 3] [4, 5, 6, 7, 8, 9, 10] rfl rfl (by decide) (by decide) hk1 hFc hP1 hD1
      generalize H1 = H at hP hS ⊢
      have hP := hP.sub (ws' := [(h0, .inr (2, [.ref r0, .ref r1, .ref r2, .ref r3, .ref r4, .int nc, .int ss, .int ib, .int li, .int ff, .int fp])), (r1, .inl (cJ, 5, .inr (.inl nb))), (r2, .inr (0, [.int a0, .int a1, .int a2, .int a3, .int a4])), (r3, .inr (3, [.int r_30.2.1, .int r_30.2.2.1, .int r_30.2.2.2.1, .int r_30.2.2.2.2.1, .int r_30.2.2.2.2.2.1, .int r_30.2.2.2.2.2.2])), (r4, .inr (4, [.ref q0, .ref q1, .ref q2, .ref q3, .ref q4, .ref q5, .int cn])), (q0, .inl (cI, 300, .inl t0)), (q1, .inl (cI, 300, .inl t1)), (q2, .inl (cI, 300, .inl t2)), (q3, .inl (cI, 300, .inl t3)), (q4, .inl (cI, 300, .inl t4)), (q5, .inl (cI, 300, .inl t5))]) [7, 8, 9, 10, 0, 1, 2, 3, 4, 5, 6] rfl
      have hD := hD.sub (ws' := [(h0, .inr (2, [.ref r0, .ref r1, .ref r2, .ref r3, .ref r4, .int nc, .int ss, .int ib, .int li, .int ff, .int fp])), (r1, .inl (cJ, 5, .inr (.inl nb))), (r2, .inr (0, [.int a0, .int a1, .int a2, .int a3, .int a4])), (r3, .inr (3, [.int r_30.2.1, .int r_30.2.2.1, .int r_30.2.2.2.1, .int r_30.2.2.2.2.1, .int r_30.2.2.2.2.2.1, .int r_30.2.2.2.2.2.2])), (r4, .inr (4, [.ref q0, .ref q1, .ref q2, .ref q3, .ref q4, .ref q5, .int cn])), (q0, .inl (cI, 300, .inl t0)), (q1, .inl (cI, 300, .inl t1)), (q2, .inl (cI, 300, .inl t2)), (q3, .inl (cI, 300, .inl t3)), (q4, .inl (cI, 300, .inl t4)), (q5, .inl (cI, 300, .inl t5))]) [7, 8, 9, 10, 0, 1, 2, 3, 4, 5, 6] (by decide) rfl
      refine lv_if_ne (tgt := 55) hx hb dX2_addSegment_40 (by decide) (fun c_31 => ?_) (fun c_31 => ?_)
      · rw [if_neg c_31] at hR
        refine lv_aload_n hx hb dX2_addSegment_55 rfl (lv_at hl 0 rfl) ?_
        refine va_get (D := (dC, dI)) (ci := 2) (v := .ref r4) (C := RX2) (T := TX2) (N := 11) hx hb hts inc_X2_addSegment_2 hown hG.1 hP 0 rfl rfl 4 (by decide) (hts (.fieldLink RX2 39 "MappingDesk$Reader" "filled" "LMappingDesk$Table;") (by decide +kernel)) (fun _ h9 => h9) rfl dX2_addSegment_56 ?_
        have hPc := hP.sub (ws' := [(r4, .inr (4, [.ref q0, .ref q1, .ref q2, .ref q3, .ref q4, .ref q5, .int cn]))]) [4] rfl
        have hDc := hD.sub (ws' := [(r4, .inr (4, [.ref q0, .ref q1, .ref q2, .ref q3, .ref q4, .ref q5, .int cn]))]) [4] (by decide) rfl
        refine vp_callSi (va_Run.run (va_runVN (C := RX4) (As := []) (rest := []) ⟨hx, hb, hml, hown, hts⟩ (c_X4_isFull l dC dI cB cC cI cJ H.size r4 q0 q1 q2 q3 q4 q5 cn ) ⟨va_cnB 0 hts gX2_addSegment_X4_isFull_n135 rfl rfl rfl (hG.nm (A := #[]) (w := .methodLinkNest RX2 135 yX4_isFull "MappingDesk") (by decide +kernel)) (hts (.initialized RX4) (by decide +kernel)) (by decide +kernel) ⟨(Nat.le_of_ble_eq_true rfl), (Nat.le_of_ble_eq_true rfl)⟩, hts (.instanceMethod yX4_isFull) (by decide +kernel), hts (.selects RX4 yX4_isFull yX4_isFull) (by decide +kernel)⟩ ⟨cP_blind, va_recv hG.1 hPc (ci := 4) (q0 := 0) rfl rfl, cP_pre hPc hG hDc⟩ rfl rfl hl.1 rfl (lv_room (Nat.le_of_ble_eq_true rfl)) dX2_addSegment_59 ⟨Nat.le_of_ble_eq_true rfl, Nat.le_of_ble_eq_true rfl⟩)) (fun r_32 hr_32 => ?_)
        rw [bnd_eq hr_32.symm] at hR
        refine lv_if_eq (tgt := 77) hx hb dX2_addSegment_62 (by decide) (fun c_33 => ?_) (fun c_33 => ?_)
        · rw [if_pos c_33] at hR
          refine lv_aload_n hx hb dX2_addSegment_77 rfl (lv_at hl 0 rfl) ?_
          refine va_get (D := (dC, dI)) (ci := 2) (v := .ref r4) (C := RX2) (T := TX2) (N := 11) hx hb hts inc_X2_addSegment_2 hown hG.1 hP 0 rfl rfl 4 (by decide) (hts (.fieldLink RX2 39 "MappingDesk$Reader" "filled" "LMappingDesk$Table;") (by decide +kernel)) (fun _ h9 => h9) rfl dX2_addSegment_78 ?_
          refine lv_aload_n hx hb dX2_addSegment_81 rfl (lv_at hl 0 rfl) ?_
          refine va_get (D := (dC, dI)) (ci := 2) (v := .ref r3) (C := RX2) (T := TX2) (N := 11) hx hb hts inc_X2_addSegment_2 hown hG.1 hP 0 rfl rfl 3 (by decide) (hts (.fieldLink RX2 32 "MappingDesk$Reader" "segment" "LMappingDesk$Segment;") (by decide +kernel)) (fun _ h9 => h9) rfl dX2_addSegment_82 ?_
          have p_34 : 0 ≤ cn.toInt := by
            first | exact hn0 | assumption
          have p_35 : cn.toInt ≤ 300 := by
            first | exact hn1 | assumption
          have hPc := hP.sub (ws' := [(r4, .inr (4, [.ref q0, .ref q1, .ref q2, .ref q3, .ref q4, .ref q5, .int cn])), (q0, .inl (cI, 300, .inl t0)), (q1, .inl (cI, 300, .inl t1)), (q2, .inl (cI, 300, .inl t2)), (q3, .inl (cI, 300, .inl t3)), (q4, .inl (cI, 300, .inl t4)), (q5, .inl (cI, 300, .inl t5)), (r3, .inr (3, [.int r_30.2.1, .int r_30.2.2.1, .int r_30.2.2.2.1, .int r_30.2.2.2.2.1, .int r_30.2.2.2.2.2.1, .int r_30.2.2.2.2.2.2]))]) [4, 5, 6, 7, 8, 9, 10, 3] rfl
          have hDc := hD.sub (ws' := [(r4, .inr (4, [.ref q0, .ref q1, .ref q2, .ref q3, .ref q4, .ref q5, .int cn])), (q0, .inl (cI, 300, .inl t0)), (q1, .inl (cI, 300, .inl t1)), (q2, .inl (cI, 300, .inl t2)), (q3, .inl (cI, 300, .inl t3)), (q4, .inl (cI, 300, .inl t4)), (q5, .inl (cI, 300, .inl t5)), (r3, .inr (3, [.int r_30.2.1, .int r_30.2.2.1, .int r_30.2.2.2.1, .int r_30.2.2.2.2.1, .int r_30.2.2.2.2.2.1, .int r_30.2.2.2.2.2.2]))]) [4, 5, 6, 7, 8, 9, 10, 3] (by decide) rfl
          have hFc := va_free (wc := [(r4, .inr (4, [.ref q0, .ref q1, .ref q2, .ref q3, .ref q4, .ref q5, .int cn])), (q0, .inl (cI, 300, .inl t0)), (q1, .inl (cI, 300, .inl t1)), (q2, .inl (cI, 300, .inl t2)), (q3, .inl (cI, 300, .inl t3)), (q4, .inl (cI, 300, .inl t4)), (q5, .inl (cI, 300, .inl t5)), (r3, .inr (3, [.int r_30.2.1, .int r_30.2.2.1, .int r_30.2.2.2.1, .int r_30.2.2.2.2.1, .int r_30.2.2.2.2.2.1, .int r_30.2.2.2.2.2.2]))]) hD hS hA [4, 5, 6, 7, 8, 9, 10, 3] rfl
          refine va_callv (va_runVN (C := RX4) (As := [.ref r3]) (rest := []) ⟨hx, hb, hml, hown, hts⟩ (c_X4_insert l dC dI cB cC cI cJ H.size r4 r3 q0 q1 q2 q3 q4 q5 cn t0 t1 t2 t3 t4 t5 r_30.2.1 r_30.2.2.1 r_30.2.2.2.1 r_30.2.2.2.2.1 r_30.2.2.2.2.2.1 r_30.2.2.2.2.2.2 p_34 p_35) ⟨va_cnB 1 hts gX2_addSegment_X4_insert_n138 rfl rfl rfl (hG.nm (A := #[]) (w := .methodLinkNest RX2 138 yX4_insert "MappingDesk") (by decide +kernel)) (hts (.initialized RX4) (by decide +kernel)) (by decide +kernel) ⟨(Nat.le_of_ble_eq_true rfl), (Nat.le_of_ble_eq_true rfl)⟩, hts (.instanceMethod yX4_insert) (by decide +kernel), hts (.selects RX4 yX4_insert yX4_insert) (by decide +kernel)⟩ ⟨cP_blind, va_recv hG.1 hPc (ci := 4) (q0 := 0) rfl rfl, cP_pre hPc hG hDc⟩ rfl rfl hl.1 rfl (lv_room (Nat.le_of_ble_eq_true rfl)) dX2_addSegment_85 ⟨Nat.le_of_ble_eq_true rfl, Nat.le_of_ble_eq_true rfl⟩) hS (fun q _ h => hFc q h) hFc (fun u t H1 locs ht hvm hw hB hz1 hk1 hS => ?_)
          obtain ⟨hP1, hD1⟩ := hB
          rw [ht] at hP1
          generalize hr_36 : fX4_insert cn t0 t1 t2 t3 t4 t5 r_30.2.1 r_30.2.2.1 r_30.2.2.2.1 r_30.2.2.2.2.1 r_30.2.2.2.2.2.1 r_30.2.2.2.2.2.2 = r_36 at hP1 hD1 hw
          have er_36_0 := hw
          rw [bnd_eq hr_36] at hR
          obtain ⟨hP, hD⟩ := va_join (wr := [(h0, .inr (2, [.ref r0, .ref r1, .ref r2, .ref r3, .ref r4, .int nc, .int ss, .int ib, .int li, .int ff, .int fp])), (r1, .inl (cJ, 5, .inr (.inl nb))), (r2, .inr (0, [.int a0, .int a1, .int a2, .int a3, .int a4]))]) (w1 := [(r4, .inr (4, [.ref q0, .ref q1, .ref q2, .ref q3, .ref q4, .ref q5, .int r_36.1])), (q0, .inl (cI, 300, .inl r_36.2.1)), (q1, .inl (cI, 300, .inl r_36.2.2.1)), (q2, .inl (cI, 300, .inl r_36.2.2.2.1)), (q3, .inl (cI, 300, .inl r_36.2.2.2.2.1)), (q4, .inl (cI, 300, .inl r_36.2.2.2.2.2.1)), (q5, .inl (cI, 300, .inl r_36.2.2.2.2.2.2)), (r3, .inr (3, [.int r_30.2.1, .int r_30.2.2.1, .int r_30.2.2.2.1, .int r_30.2.2.2.2.1, .int r_30.2.2.2.2.2.1, .int r_30.2.2.2.2.2.2]))]) hP hD [4, 5, 6, 7, 8, 9, 10, 3] [0, 1, 2] rfl rfl (by decide) (by decide) hk1 hFc hP1 hD1
          generalize H1 = H at hP hS ⊢
          have hP := hP.sub (ws' := [(h0, .inr (2, [.ref r0, .ref r1, .ref r2, .ref r3, .ref r4, .int nc, .int ss, .int ib, .int li, .int ff, .int fp])), (r1, .inl (cJ, 5, .inr (.inl nb))), (r2, .inr (0, [.int a0, .int a1, .int a2, .int a3, .int a4])), (r3, .inr (3, [.int r_30.2.1, .int r_30.2.2.1, .int r_30.2.2.2.1, .int r_30.2.2.2.2.1, .int r_30.2.2.2.2.2.1, .int r_30.2.2.2.2.2.2])), (r4, .inr (4, [.ref q0, .ref q1, .ref q2, .ref q3, .ref q4, .ref q5, .int r_36.1])), (q0, .inl (cI, 300, .inl r_36.2.1)), (q1, .inl (cI, 300, .inl r_36.2.2.1)), (q2, .inl (cI, 300, .inl r_36.2.2.2.1)), (q3, .inl (cI, 300, .inl r_36.2.2.2.2.1)), (q4, .inl (cI, 300, .inl r_36.2.2.2.2.2.1)), (q5, .inl (cI, 300, .inl r_36.2.2.2.2.2.2))]) [0, 1, 2, 10, 3, 4, 5, 6, 7, 8, 9] rfl
          have hD := hD.sub (ws' := [(h0, .inr (2, [.ref r0, .ref r1, .ref r2, .ref r3, .ref r4, .int nc, .int ss, .int ib, .int li, .int ff, .int fp])), (r1, .inl (cJ, 5, .inr (.inl nb))), (r2, .inr (0, [.int a0, .int a1, .int a2, .int a3, .int a4])), (r3, .inr (3, [.int r_30.2.1, .int r_30.2.2.1, .int r_30.2.2.2.1, .int r_30.2.2.2.2.1, .int r_30.2.2.2.2.2.1, .int r_30.2.2.2.2.2.2])), (r4, .inr (4, [.ref q0, .ref q1, .ref q2, .ref q3, .ref q4, .ref q5, .int r_36.1])), (q0, .inl (cI, 300, .inl r_36.2.1)), (q1, .inl (cI, 300, .inl r_36.2.2.1)), (q2, .inl (cI, 300, .inl r_36.2.2.2.1)), (q3, .inl (cI, 300, .inl r_36.2.2.2.2.1)), (q4, .inl (cI, 300, .inl r_36.2.2.2.2.2.1)), (q5, .inl (cI, 300, .inl r_36.2.2.2.2.2.2))]) [0, 1, 2, 10, 3, 4, 5, 6, 7, 8, 9] (by decide) rfl
          refine lv_aload_n hx hb dX2_addSegment_88 rfl (lv_at hl 0 rfl) ?_
          refine va_get (D := (dC, dI)) (ci := 2) (v := .ref r2) (C := RX2) (T := TX2) (N := 11) hx hb hts inc_X2_addSegment_2 hown hG.1 hP 0 rfl rfl 2 (by decide) (hts (.fieldLink RX2 25 "MappingDesk$Reader" "ahead" "LMappingDesk$Ahead;") (by decide +kernel)) (fun _ h9 => h9) rfl dX2_addSegment_89 ?_
          refine lv_aload_n hx hb dX2_addSegment_92 rfl (lv_at hl 0 rfl) ?_
          refine va_get (D := (dC, dI)) (ci := 2) (v := .ref r3) (C := RX2) (T := TX2) (N := 11) hx hb hts inc_X2_addSegment_2 hown hG.1 hP 0 rfl rfl 3 (by decide) (hts (.fieldLink RX2 32 "MappingDesk$Reader" "segment" "LMappingDesk$Segment;") (by decide +kernel)) (fun _ h9 => h9) rfl dX2_addSegment_93 ?_
          have hPc := hP.sub (ws' := [(r2, .inr (0, [.int a0, .int a1, .int a2, .int a3, .int a4])), (r3, .inr (3, [.int r_30.2.1, .int r_30.2.2.1, .int r_30.2.2.2.1, .int r_30.2.2.2.2.1, .int r_30.2.2.2.2.2.1, .int r_30.2.2.2.2.2.2]))]) [2, 3] rfl
          have hDc := hD.sub (ws' := [(r2, .inr (0, [.int a0, .int a1, .int a2, .int a3, .int a4])), (r3, .inr (3, [.int r_30.2.1, .int r_30.2.2.1, .int r_30.2.2.2.1, .int r_30.2.2.2.2.1, .int r_30.2.2.2.2.2.1, .int r_30.2.2.2.2.2.2]))]) [2, 3] (by decide) rfl
          have hFc := va_free (wc := [(r2, .inr (0, [.int a0, .int a1, .int a2, .int a3, .int a4])), (r3, .inr (3, [.int r_30.2.1, .int r_30.2.2.1, .int r_30.2.2.2.1, .int r_30.2.2.2.2.1, .int r_30.2.2.2.2.2.1, .int r_30.2.2.2.2.2.2]))]) hD hS hA [2, 3] rfl
          refine va_callv (va_runVN (C := RX0) (As := [.ref r3]) (rest := []) ⟨hx, hb, hml, hown, hts⟩ (c_X0_pass l dC dI cB cC cI cJ H.size r2 r3 a0 a1 a2 a3 a4 r_30.2.1 r_30.2.2.1 r_30.2.2.2.1 r_30.2.2.2.2.1 r_30.2.2.2.2.2.1 r_30.2.2.2.2.2.2 ) ⟨va_cnB 1 hts gX2_addSegment_X0_pass_n142 rfl rfl rfl (hG.nm (A := #[]) (w := .methodLinkNest RX2 142 yX0_pass "MappingDesk") (by decide +kernel)) (hts (.initialized RX0) (by decide +kernel)) (by decide +kernel) ⟨(Nat.le_of_ble_eq_true rfl), (Nat.le_of_ble_eq_true rfl)⟩, hts (.instanceMethod yX0_pass) (by decide +kernel), hts (.selects RX0 yX0_pass yX0_pass) (by decide +kernel)⟩ ⟨cP_blind, va_recv hG.1 hPc (ci := 0) (q0 := 0) rfl rfl, cP_pre hPc hG hDc⟩ rfl rfl hl.1 rfl (lv_room (Nat.le_of_ble_eq_true rfl)) dX2_addSegment_96 ⟨Nat.le_of_ble_eq_true rfl, Nat.le_of_ble_eq_true rfl⟩) hS (fun q _ h => hFc q h) hFc (fun u t H1 locs ht hvm hw hB hz1 hk1 hS => ?_)
          obtain ⟨hP1, hD1⟩ := hB
          rw [ht] at hP1
          generalize hr_37 : fX0_pass a0 a1 a2 a3 a4 r_30.2.1 r_30.2.2.1 r_30.2.2.2.1 r_30.2.2.2.2.1 r_30.2.2.2.2.2.1 r_30.2.2.2.2.2.2 = r_37 at hP1 hD1
          rw [bnd_eq hr_37] at hR
          obtain ⟨hP, hD⟩ := va_join (wr := [(h0, .inr (2, [.ref r0, .ref r1, .ref r2, .ref r3, .ref r4, .int nc, .int ss, .int ib, .int li, .int ff, .int fp])), (r1, .inl (cJ, 5, .inr (.inl nb))), (r4, .inr (4, [.ref q0, .ref q1, .ref q2, .ref q3, .ref q4, .ref q5, .int r_36.1])), (q0, .inl (cI, 300, .inl r_36.2.1)), (q1, .inl (cI, 300, .inl r_36.2.2.1)), (q2, .inl (cI, 300, .inl r_36.2.2.2.1)), (q3, .inl (cI, 300, .inl r_36.2.2.2.2.1)), (q4, .inl (cI, 300, .inl r_36.2.2.2.2.2.1)), (q5, .inl (cI, 300, .inl r_36.2.2.2.2.2.2))]) (w1 := [(r2, .inr (0, [.int r_37.1, .int r_37.2.1, .int r_37.2.2.1, .int r_37.2.2.2.1, .int r_37.2.2.2.2])), (r3, .inr (3, [.int r_30.2.1, .int r_30.2.2.1, .int r_30.2.2.2.1, .int r_30.2.2.2.2.1, .int r_30.2.2.2.2.2.1, .int r_30.2.2.2.2.2.2]))]) hP hD [2, 3] [0, 1, 4, 5, 6, 7, 8, 9, 10] rfl rfl (by decide) (by decide) hk1 hFc hP1 hD1
          generalize H1 = H at hP hS ⊢
          have hP := hP.sub (ws' := [(h0, .inr (2, [.ref r0, .ref r1, .ref r2, .ref r3, .ref r4, .int nc, .int ss, .int ib, .int li, .int ff, .int fp])), (r1, .inl (cJ, 5, .inr (.inl nb))), (r2, .inr (0, [.int r_37.1, .int r_37.2.1, .int r_37.2.2.1, .int r_37.2.2.2.1, .int r_37.2.2.2.2])), (r3, .inr (3, [.int r_30.2.1, .int r_30.2.2.1, .int r_30.2.2.2.1, .int r_30.2.2.2.2.1, .int r_30.2.2.2.2.2.1, .int r_30.2.2.2.2.2.2])), (r4, .inr (4, [.ref q0, .ref q1, .ref q2, .ref q3, .ref q4, .ref q5, .int r_36.1])), (q0, .inl (cI, 300, .inl r_36.2.1)), (q1, .inl (cI, 300, .inl r_36.2.2.1)), (q2, .inl (cI, 300, .inl r_36.2.2.2.1)), (q3, .inl (cI, 300, .inl r_36.2.2.2.2.1)), (q4, .inl (cI, 300, .inl r_36.2.2.2.2.2.1)), (q5, .inl (cI, 300, .inl r_36.2.2.2.2.2.2))]) [0, 1, 9, 10, 2, 3, 4, 5, 6, 7, 8] rfl
          have hD := hD.sub (ws' := [(h0, .inr (2, [.ref r0, .ref r1, .ref r2, .ref r3, .ref r4, .int nc, .int ss, .int ib, .int li, .int ff, .int fp])), (r1, .inl (cJ, 5, .inr (.inl nb))), (r2, .inr (0, [.int r_37.1, .int r_37.2.1, .int r_37.2.2.1, .int r_37.2.2.2.1, .int r_37.2.2.2.2])), (r3, .inr (3, [.int r_30.2.1, .int r_30.2.2.1, .int r_30.2.2.2.1, .int r_30.2.2.2.2.1, .int r_30.2.2.2.2.2.1, .int r_30.2.2.2.2.2.2])), (r4, .inr (4, [.ref q0, .ref q1, .ref q2, .ref q3, .ref q4, .ref q5, .int r_36.1])), (q0, .inl (cI, 300, .inl r_36.2.1)), (q1, .inl (cI, 300, .inl r_36.2.2.1)), (q2, .inl (cI, 300, .inl r_36.2.2.2.1)), (q3, .inl (cI, 300, .inl r_36.2.2.2.2.1)), (q4, .inl (cI, 300, .inl r_36.2.2.2.2.2.1)), (q5, .inl (cI, 300, .inl r_36.2.2.2.2.2.2))]) [0, 1, 9, 10, 2, 3, 4, 5, 6, 7, 8] (by decide) rfl
          have e_38 : 0 ≤ (r_36.1 : Int32).toInt ∧ (r_36.1 : Int32).toInt ≤ 300 := by
            have k_39 : (1 : Int32).toInt = 1 := by decide
            have q_40 := i_ne c_1
            have k_41 : (4 : Int32).toInt = 4 := by decide
            have q_42 := i_eq c_29
            have k_43 : (0 : Int32).toInt = 0 := by decide
            have q_44 := i_ne c_31
            have q_45 := i_eq c_33
            try generalize Int32.toInt r_30.1 = z0 at *
            try generalize Int32.toInt r_36.1 = z1 at *
            try generalize Int32.toInt r_32 = z2 at *
            try generalize Int32.toInt cn = z3 at *
            try generalize Int32.toInt nc = z4 at *
            try generalize Int32.toInt (0 : Int32) = z5 at *
            try generalize Int32.toInt (1 : Int32) = z6 at *
            try generalize Int32.toInt (4 : Int32) = z7 at *
            omega
          subst hR
          exact W.vret hx hb hr (fun t ht hW => ⟨⟨(), rfl, e_38, by rw [ht]; exact hP, hD⟩, hS.F ht⟩) hS.2.2 dX2_addSegment_99
        · rw [if_neg c_33] at hR
          refine lv_aload_n hx hb dX2_addSegment_65 rfl (lv_at hl 0 rfl) ?_
          refine lv_iconst (v := 5) hx hb dX2_addSegment_66 (by decide) ?_
          refine lv_aload_n hx hb dX2_addSegment_67 rfl (lv_at hl 0 rfl) ?_
          refine va_get (D := (dC, dI)) (ci := 2) (v := .int ss) (C := RX2) (T := TX2) (N := 11) hx hb hts inc_X2_addSegment_2 hown hG.1 hP 0 rfl rfl 6 (by decide) (hts (.fieldLink RX2 79 "MappingDesk$Reader" "segmentStart" "I") (by decide +kernel)) (fun _ h9 => h9) rfl dX2_addSegment_68 ?_
          have hPc := hP.sub (ws' := [(h0, .inr (2, [.ref r0, .ref r1, .ref r2, .ref r3, .ref r4, .int nc, .int ss, .int ib, .int li, .int ff, .int fp]))]) [0] rfl
          have hDc := hD.sub (ws' := [(h0, .inr (2, [.ref r0, .ref r1, .ref r2, .ref r3, .ref r4, .int nc, .int ss, .int ib, .int li, .int ff, .int fp]))]) [0] (by decide) rfl
          have hFc := va_free (wc := [(h0, .inr (2, [.ref r0, .ref r1, .ref r2, .ref r3, .ref r4, .int nc, .int ss, .int ib, .int li, .int ff, .int fp]))]) hD hS hA [0] rfl
          refine va_callv (va_runV (As := [.int 5, .int ss]) (rest := []) ⟨hx, hb, hml, hown, hts⟩ (c_X2_refuse l dC dI cB cC cI cJ H.size h0 r0 r1 r2 r3 r4 nc ss ib li ff fp 5 ss ) (cwV 2 hts gX2_addSegment_X2_refuse rfl rfl rfl (by decide +kernel) ⟨(Nat.le_of_ble_eq_true rfl), (Nat.le_of_ble_eq_true rfl)⟩) ⟨cP_blind, va_recv hG.1 hPc (ci := 2) (q0 := 0) rfl rfl, cP_pre hPc hG hDc⟩ rfl rfl hl.1 rfl (lv_room (Nat.le_of_ble_eq_true rfl)) dX2_addSegment_71 ⟨Nat.le_of_ble_eq_true rfl, Nat.le_of_ble_eq_true rfl⟩) hS (fun q _ h => hFc q h) hFc (fun u t H1 locs ht hvm hw hB hz1 hk1 hS => ?_)
          obtain ⟨hP1, hD1⟩ := hB
          rw [ht] at hP1
          generalize hr_46 : fX2_refuse nc ss ib li ff fp 5 ss = r_46 at hP1 hD1
          rw [bnd_eq hr_46] at hR
          obtain ⟨hP, hD⟩ := va_join (wr := [(r1, .inl (cJ, 5, .inr (.inl nb))), (r2, .inr (0, [.int a0, .int a1, .int a2, .int a3, .int a4])), (r3, .inr (3, [.int r_30.2.1, .int r_30.2.2.1, .int r_30.2.2.2.1, .int r_30.2.2.2.2.1, .int r_30.2.2.2.2.2.1, .int r_30.2.2.2.2.2.2])), (r4, .inr (4, [.ref q0, .ref q1, .ref q2, .ref q3, .ref q4, .ref q5, .int cn])), (q0, .inl (cI, 300, .inl t0)), (q1, .inl (cI, 300, .inl t1)), (q2, .inl (cI, 300, .inl t2)), (q3, .inl (cI, 300, .inl t3)), (q4, .inl (cI, 300, .inl t4)), (q5, .inl (cI, 300, .inl t5))]) (w1 := [(h0, .inr (2, [.ref r0, .ref r1, .ref r2, .ref r3, .ref r4, .int nc, .int ss, .int ib, .int li, .int r_46.1, .int r_46.2]))]) hP hD [0] [1, 2, 3, 4, 5, 6, 7, 8, 9, 10] rfl rfl (by decide) (by decide) hk1 hFc hP1 hD1
          generalize H1 = H at hP hS ⊢
          have hP := hP.sub (ws' := [(h0, .inr (2, [.ref r0, .ref r1, .ref r2, .ref r3, .ref r4, .int nc, .int ss, .int ib, .int li, .int r_46.1, .int r_46.2])), (r1, .inl (cJ, 5, .inr (.inl nb))), (r2, .inr (0, [.int a0, .int a1, .int a2, .int a3, .int a4])), (r3, .inr (3, [.int r_30.2.1, .int r_30.2.2.1, .int r_30.2.2.2.1, .int r_30.2.2.2.2.1, .int r_30.2.2.2.2.2.1, .int r_30.2.2.2.2.2.2])), (r4, .inr (4, [.ref q0, .ref q1, .ref q2, .ref q3, .ref q4, .ref q5, .int cn])), (q0, .inl (cI, 300, .inl t0)), (q1, .inl (cI, 300, .inl t1)), (q2, .inl (cI, 300, .inl t2)), (q3, .inl (cI, 300, .inl t3)), (q4, .inl (cI, 300, .inl t4)), (q5, .inl (cI, 300, .inl t5))]) [10, 0, 1, 2, 3, 4, 5, 6, 7, 8, 9] rfl
          have hD := hD.sub (ws' := [(h0, .inr (2, [.ref r0, .ref r1, .ref r2, .ref r3, .ref r4, .int nc, .int ss, .int ib, .int li, .int r_46.1, .int r_46.2])), (r1, .inl (cJ, 5, .inr (.inl nb))), (r2, .inr (0, [.int a0, .int a1, .int a2, .int a3, .int a4])), (r3, .inr (3, [.int r_30.2.1, .int r_30.2.2.1, .int r_30.2.2.2.1, .int r_30.2.2.2.2.1, .int r_30.2.2.2.2.2.1, .int r_30.2.2.2.2.2.2])), (r4, .inr (4, [.ref q0, .ref q1, .ref q2, .ref q3, .ref q4, .ref q5, .int cn])), (q0, .inl (cI, 300, .inl t0)), (q1, .inl (cI, 300, .inl t1)), (q2, .inl (cI, 300, .inl t2)), (q3, .inl (cI, 300, .inl t3)), (q4, .inl (cI, 300, .inl t4)), (q5, .inl (cI, 300, .inl t5))]) [10, 0, 1, 2, 3, 4, 5, 6, 7, 8, 9] (by decide) rfl
          refine lv_goto (tgt := 99) hx hb dX2_addSegment_74 (by decide) ?_
          have e_47 : 0 ≤ (cn : Int32).toInt ∧ (cn : Int32).toInt ≤ 300 := by
            have k_48 : (1 : Int32).toInt = 1 := by decide
            have q_49 := i_ne c_1
            have k_50 : (4 : Int32).toInt = 4 := by decide
            have q_51 := i_eq c_29
            have k_52 : (0 : Int32).toInt = 0 := by decide
            have q_53 := i_ne c_31
            have q_54 := i_ne c_33
            try generalize Int32.toInt r_30.1 = z0 at *
            try generalize Int32.toInt r_32 = z1 at *
            try generalize Int32.toInt cn = z2 at *
            try generalize Int32.toInt nc = z3 at *
            try generalize Int32.toInt (0 : Int32) = z4 at *
            try generalize Int32.toInt (1 : Int32) = z5 at *
            try generalize Int32.toInt (4 : Int32) = z6 at *
            omega
          subst hR
          exact W.vret hx hb hr (fun t ht hW => ⟨⟨(), rfl, e_47, by rw [ht]; exact hP, hD⟩, hS.F ht⟩) hS.2.2 dX2_addSegment_99
      · rw [if_pos c_31] at hR
        refine lv_aload_n hx hb dX2_addSegment_43 rfl (lv_at hl 0 rfl) ?_
        refine lv_iconst (v := 4) hx hb dX2_addSegment_44 (by decide) ?_
        refine lv_aload_n hx hb dX2_addSegment_45 rfl (lv_at hl 0 rfl) ?_
        refine va_get (D := (dC, dI)) (ci := 2) (v := .int ss) (C := RX2) (T := TX2) (N := 11) hx hb hts inc_X2_addSegment_2 hown hG.1 hP 0 rfl rfl 6 (by decide) (hts (.fieldLink RX2 79 "MappingDesk$Reader" "segmentStart" "I") (by decide +kernel)) (fun _ h9 => h9) rfl dX2_addSegment_46 ?_
        have hPc := hP.sub (ws' := [(h0, .inr (2, [.ref r0, .ref r1, .ref r2, .ref r3, .ref r4, .int nc, .int ss, .int ib, .int li, .int ff, .int fp]))]) [0] rfl
        have hDc := hD.sub (ws' := [(h0, .inr (2, [.ref r0, .ref r1, .ref r2, .ref r3, .ref r4, .int nc, .int ss, .int ib, .int li, .int ff, .int fp]))]) [0] (by decide) rfl
        have hFc := va_free (wc := [(h0, .inr (2, [.ref r0, .ref r1, .ref r2, .ref r3, .ref r4, .int nc, .int ss, .int ib, .int li, .int ff, .int fp]))]) hD hS hA [0] rfl
        refine va_callv (va_runV (As := [.int 4, .int ss]) (rest := []) ⟨hx, hb, hml, hown, hts⟩ (c_X2_refuse l dC dI cB cC cI cJ H.size h0 r0 r1 r2 r3 r4 nc ss ib li ff fp 4 ss ) (cwV 2 hts gX2_addSegment_X2_refuse rfl rfl rfl (by decide +kernel) ⟨(Nat.le_of_ble_eq_true rfl), (Nat.le_of_ble_eq_true rfl)⟩) ⟨cP_blind, va_recv hG.1 hPc (ci := 2) (q0 := 0) rfl rfl, cP_pre hPc hG hDc⟩ rfl rfl hl.1 rfl (lv_room (Nat.le_of_ble_eq_true rfl)) dX2_addSegment_49 ⟨Nat.le_of_ble_eq_true rfl, Nat.le_of_ble_eq_true rfl⟩) hS (fun q _ h => hFc q h) hFc (fun u t H1 locs ht hvm hw hB hz1 hk1 hS => ?_)
        obtain ⟨hP1, hD1⟩ := hB
        rw [ht] at hP1
        generalize hr_55 : fX2_refuse nc ss ib li ff fp 4 ss = r_55 at hP1 hD1
        rw [bnd_eq hr_55] at hR
        obtain ⟨hP, hD⟩ := va_join (wr := [(r1, .inl (cJ, 5, .inr (.inl nb))), (r2, .inr (0, [.int a0, .int a1, .int a2, .int a3, .int a4])), (r3, .inr (3, [.int r_30.2.1, .int r_30.2.2.1, .int r_30.2.2.2.1, .int r_30.2.2.2.2.1, .int r_30.2.2.2.2.2.1, .int r_30.2.2.2.2.2.2])), (r4, .inr (4, [.ref q0, .ref q1, .ref q2, .ref q3, .ref q4, .ref q5, .int cn])), (q0, .inl (cI, 300, .inl t0)), (q1, .inl (cI, 300, .inl t1)), (q2, .inl (cI, 300, .inl t2)), (q3, .inl (cI, 300, .inl t3)), (q4, .inl (cI, 300, .inl t4)), (q5, .inl (cI, 300, .inl t5))]) (w1 := [(h0, .inr (2, [.ref r0, .ref r1, .ref r2, .ref r3, .ref r4, .int nc, .int ss, .int ib, .int li, .int r_55.1, .int r_55.2]))]) hP hD [0] [1, 2, 3, 4, 5, 6, 7, 8, 9, 10] rfl rfl (by decide) (by decide) hk1 hFc hP1 hD1
        generalize H1 = H at hP hS ⊢
        have hP := hP.sub (ws' := [(h0, .inr (2, [.ref r0, .ref r1, .ref r2, .ref r3, .ref r4, .int nc, .int ss, .int ib, .int li, .int r_55.1, .int r_55.2])), (r1, .inl (cJ, 5, .inr (.inl nb))), (r2, .inr (0, [.int a0, .int a1, .int a2, .int a3, .int a4])), (r3, .inr (3, [.int r_30.2.1, .int r_30.2.2.1, .int r_30.2.2.2.1, .int r_30.2.2.2.2.1, .int r_30.2.2.2.2.2.1, .int r_30.2.2.2.2.2.2])), (r4, .inr (4, [.ref q0, .ref q1, .ref q2, .ref q3, .ref q4, .ref q5, .int cn])), (q0, .inl (cI, 300, .inl t0)), (q1, .inl (cI, 300, .inl t1)), (q2, .inl (cI, 300, .inl t2)), (q3, .inl (cI, 300, .inl t3)), (q4, .inl (cI, 300, .inl t4)), (q5, .inl (cI, 300, .inl t5))]) [10, 0, 1, 2, 3, 4, 5, 6, 7, 8, 9] rfl
        have hD := hD.sub (ws' := [(h0, .inr (2, [.ref r0, .ref r1, .ref r2, .ref r3, .ref r4, .int nc, .int ss, .int ib, .int li, .int r_55.1, .int r_55.2])), (r1, .inl (cJ, 5, .inr (.inl nb))), (r2, .inr (0, [.int a0, .int a1, .int a2, .int a3, .int a4])), (r3, .inr (3, [.int r_30.2.1, .int r_30.2.2.1, .int r_30.2.2.2.1, .int r_30.2.2.2.2.1, .int r_30.2.2.2.2.2.1, .int r_30.2.2.2.2.2.2])), (r4, .inr (4, [.ref q0, .ref q1, .ref q2, .ref q3, .ref q4, .ref q5, .int cn])), (q0, .inl (cI, 300, .inl t0)), (q1, .inl (cI, 300, .inl t1)), (q2, .inl (cI, 300, .inl t2)), (q3, .inl (cI, 300, .inl t3)), (q4, .inl (cI, 300, .inl t4)), (q5, .inl (cI, 300, .inl t5))]) [10, 0, 1, 2, 3, 4, 5, 6, 7, 8, 9] (by decide) rfl
        refine lv_goto (tgt := 99) hx hb dX2_addSegment_52 (by decide) ?_
        have e_56 : 0 ≤ (cn : Int32).toInt ∧ (cn : Int32).toInt ≤ 300 := by
          have k_57 : (1 : Int32).toInt = 1 := by decide
          have q_58 := i_ne c_1
          have k_59 : (4 : Int32).toInt = 4 := by decide
          have q_60 := i_eq c_29
          have k_61 : (0 : Int32).toInt = 0 := by decide
          have q_62 := i_eq c_31
          try generalize Int32.toInt r_30.1 = z0 at *
          try generalize Int32.toInt cn = z1 at *
          try generalize Int32.toInt nc = z2 at *
          try generalize Int32.toInt (0 : Int32) = z3 at *
          try generalize Int32.toInt (1 : Int32) = z4 at *
          try generalize Int32.toInt (4 : Int32) = z5 at *
          omega
        subst hR
        exact W.vret hx hb hr (fun t ht hW => ⟨⟨(), rfl, e_56, by rw [ht]; exact hP, hD⟩, hS.F ht⟩) hS.2.2 dX2_addSegment_99
    · rw [if_neg c_29] at hR
      refine lv_aload_n hx hb dX2_addSegment_16 rfl (lv_at hl 0 rfl) ?_
      refine va_get (D := (dC, dI)) (ci := 2) (v := .int nc) (C := RX2) (T := TX2) (N := 11) hx hb hts inc_X2_addSegment_2 hown hG.1 hP 0 rfl rfl 5 (by decide) (hts (.fieldLink RX2 76 "MappingDesk$Reader" "numberCount" "I") (by decide +kernel)) (fun _ h9 => h9) rfl dX2_addSegment_17 ?_
      refine lv_iconst (v := 5) hx hb dX2_addSegment_20 (by decide) ?_
      refine lv_icmp_eq (tgt := 36) hx hb dX2_addSegment_21 (by decide) (fun c_63 => ?_) (fun c_63 => ?_)
      · rw [if_pos c_63] at hR
        refine lv_aload_n hx hb dX2_addSegment_36 rfl (lv_at hl 0 rfl) ?_
        have hPc := hP.sub (ws' := [(h0, .inr (2, [.ref r0, .ref r1, .ref r2, .ref r3, .ref r4, .int nc, .int ss, .int ib, .int li, .int ff, .int fp])), (r1, .inl (cJ, 5, .inr (.inl nb))), (r2, .inr (0, [.int a0, .int a1, .int a2, .int a3, .int a4])), (r3, .inr (3, [.int g0, .int g1, .int g2, .int g3, .int g4, .int g5]))]) [0, 1, 2, 3] rfl
        have hDc := hD.sub (ws' := [(h0, .inr (2, [.ref r0, .ref r1, .ref r2, .ref r3, .ref r4, .int nc, .int ss, .int ib, .int li, .int ff, .int fp])), (r1, .inl (cJ, 5, .inr (.inl nb))), (r2, .inr (0, [.int a0, .int a1, .int a2, .int a3, .int a4])), (r3, .inr (3, [.int g0, .int g1, .int g2, .int g3, .int g4, .int g5]))]) [0, 1, 2, 3] (by decide) rfl
        have hFc := va_free (wc := [(h0, .inr (2, [.ref r0, .ref r1, .ref r2, .ref r3, .ref r4, .int nc, .int ss, .int ib, .int li, .int ff, .int fp])), (r1, .inl (cJ, 5, .inr (.inl nb))), (r2, .inr (0, [.int a0, .int a1, .int a2, .int a3, .int a4])), (r3, .inr (3, [.int g0, .int g1, .int g2, .int g3, .int g4, .int g5]))]) hD hS hA [0, 1, 2, 3] rfl
        refine va_calli (va_runV (As := []) (rest := []) ⟨hx, hb, hml, hown, hts⟩ (c_X2_addUp l dC dI cB cC cI cJ H.size h0 r0 r1 r2 r3 r4 nc ss ib li ff fp nb a0 a1 a2 a3 a4 g0 g1 g2 g3 g4 g5 ) (cwV 0 hts gX2_addSegment_X2_addUp rfl rfl rfl (by decide +kernel) ⟨(Nat.le_of_ble_eq_true rfl), (Nat.le_of_ble_eq_true rfl)⟩) ⟨cP_blind, va_recv hG.1 hPc (ci := 2) (q0 := 0) rfl rfl, cP_pre hPc hG hDc⟩ rfl rfl hl.1 rfl (lv_room (Nat.le_of_ble_eq_true rfl)) dX2_addSegment_37 ⟨Nat.le_of_ble_eq_true rfl, Nat.le_of_ble_eq_true rfl⟩) hS (fun q _ h => hFc q h) hFc (fun r_64v u t H1 locs ht hvm hw hB hz1 hk1 hS => ?_)
        obtain ⟨hP1, hD1⟩ := hB
        rw [ht] at hP1
        generalize hr_64 : fX2_addUp nc ss ib li ff fp nb a0 a1 a2 a3 a4 g0 g1 g2 g3 g4 g5 = r_64 at hP1 hD1 hw
        rw [bnd_eq hr_64] at hR
        subst hw
        obtain ⟨hP, hD⟩ := va_join (wr := [(r4, .inr (4, [.ref q0, .ref q1, .ref q2, .ref q3, .ref q4, .ref q5, .int cn])), (q0, .inl (cI, 300, .inl t0)), (q1, .inl (cI, 300, .inl t1)), (q2, .inl (cI, 300, .inl t2)), (q3, .inl (cI, 300, .inl t3)), (q4, .inl (cI, 300, .inl t4)), (q5, .inl (cI, 300, .inl t5))]) (w1 := [(h0, .inr (2, [.ref r0, .ref r1, .ref r2, .ref r3, .ref r4, .int nc, .int ss, .int ib, .int li, .int ff, .int fp])), (r1, .inl (cJ, 5, .inr (.inl nb))), (r2, .inr (0, [.int a0, .int a1, .int a2, .int a3, .int a4])), (r3, .inr (3, [.int r_64.2.1, .int r_64.2.2.1, .int r_64.2.2.2.1, .int r_64.2.2.2.2.1, .int r_64.2.2.2.2.2.1, .int r_64.2.2.2.2.2.2]))]) hP hD [0, 1, 2, 3] [4, 5, 6, 7, 8, 9, 10] rfl rfl (by decide) (by decide) hk1 hFc hP1 hD1
        generalize H1 = H at hP hS ⊢
        have hP := hP.sub (ws' := [(h0, .inr (2, [.ref r0, .ref r1, .ref r2, .ref r3, .ref r4, .int nc, .int ss, .int ib, .int li, .int ff, .int fp])), (r1, .inl (cJ, 5, .inr (.inl nb))), (r2, .inr (0, [.int a0, .int a1, .int a2, .int a3, .int a4])), (r3, .inr (3, [.int r_64.2.1, .int r_64.2.2.1, .int r_64.2.2.2.1, .int r_64.2.2.2.2.1, .int r_64.2.2.2.2.2.1, .int r_64.2.2.2.2.2.2])), (r4, .inr (4, [.ref q0, .ref q1, .ref q2, .ref q3, .ref q4, .ref q5, .int cn])), (q0, .inl (cI, 300, .inl t0)), (q1, .inl (cI, 300, .inl t1)), (q2, .inl (cI, 300, .inl t2)), (q3, .inl (cI, 300, .inl t3)), (q4, .inl (cI, 300, .inl t4)), (q5, .inl (cI, 300, .inl t5))]) [7, 8, 9, 10, 0, 1, 2, 3, 4, 5, 6] rfl
        have hD := hD.sub (ws' := [(h0, .inr (2, [.ref r0, .ref r1, .ref r2, .ref r3, .ref r4, .int nc, .int ss, .int ib, .int li, .int ff, .int fp])), (r1, .inl (cJ, 5, .inr (.inl nb))), (r2, .inr (0, [.int a0, .int a1, .int a2, .int a3, .int a4])), (r3, .inr (3, [.int r_64.2.1, .int r_64.2.2.1, .int r_64.2.2.2.1, .int r_64.2.2.2.2.1, .int r_64.2.2.2.2.2.1, .int r_64.2.2.2.2.2.2])), (r4, .inr (4, [.ref q0, .ref q1, .ref q2, .ref q3, .ref q4, .ref q5, .int cn])), (q0, .inl (cI, 300, .inl t0)), (q1, .inl (cI, 300, .inl t1)), (q2, .inl (cI, 300, .inl t2)), (q3, .inl (cI, 300, .inl t3)), (q4, .inl (cI, 300, .inl t4)), (q5, .inl (cI, 300, .inl t5))]) [7, 8, 9, 10, 0, 1, 2, 3, 4, 5, 6] (by decide) rfl
        refine lv_if_ne (tgt := 55) hx hb dX2_addSegment_40 (by decide) (fun c_65 => ?_) (fun c_65 => ?_)
        · rw [if_neg c_65] at hR
          refine lv_aload_n hx hb dX2_addSegment_55 rfl (lv_at hl 0 rfl) ?_
          refine va_get (D := (dC, dI)) (ci := 2) (v := .ref r4) (C := RX2) (T := TX2) (N := 11) hx hb hts inc_X2_addSegment_2 hown hG.1 hP 0 rfl rfl 4 (by decide) (hts (.fieldLink RX2 39 "MappingDesk$Reader" "filled" "LMappingDesk$Table;") (by decide +kernel)) (fun _ h9 => h9) rfl dX2_addSegment_56 ?_
          have hPc := hP.sub (ws' := [(r4, .inr (4, [.ref q0, .ref q1, .ref q2, .ref q3, .ref q4, .ref q5, .int cn]))]) [4] rfl
          have hDc := hD.sub (ws' := [(r4, .inr (4, [.ref q0, .ref q1, .ref q2, .ref q3, .ref q4, .ref q5, .int cn]))]) [4] (by decide) rfl
          refine vp_callSi (va_Run.run (va_runVN (C := RX4) (As := []) (rest := []) ⟨hx, hb, hml, hown, hts⟩ (c_X4_isFull l dC dI cB cC cI cJ H.size r4 q0 q1 q2 q3 q4 q5 cn ) ⟨va_cnB 0 hts gX2_addSegment_X4_isFull_n135 rfl rfl rfl (hG.nm (A := #[]) (w := .methodLinkNest RX2 135 yX4_isFull "MappingDesk") (by decide +kernel)) (hts (.initialized RX4) (by decide +kernel)) (by decide +kernel) ⟨(Nat.le_of_ble_eq_true rfl), (Nat.le_of_ble_eq_true rfl)⟩, hts (.instanceMethod yX4_isFull) (by decide +kernel), hts (.selects RX4 yX4_isFull yX4_isFull) (by decide +kernel)⟩ ⟨cP_blind, va_recv hG.1 hPc (ci := 4) (q0 := 0) rfl rfl, cP_pre hPc hG hDc⟩ rfl rfl hl.1 rfl (lv_room (Nat.le_of_ble_eq_true rfl)) dX2_addSegment_59 ⟨Nat.le_of_ble_eq_true rfl, Nat.le_of_ble_eq_true rfl⟩)) (fun r_66 hr_66 => ?_)
          rw [bnd_eq hr_66.symm] at hR
          refine lv_if_eq (tgt := 77) hx hb dX2_addSegment_62 (by decide) (fun c_67 => ?_) (fun c_67 => ?_)
          · rw [if_pos c_67] at hR
            refine lv_aload_n hx hb dX2_addSegment_77 rfl (lv_at hl 0 rfl) ?_
            refine va_get (D := (dC, dI)) (ci := 2) (v := .ref r4) (C := RX2) (T := TX2) (N := 11) hx hb hts inc_X2_addSegment_2 hown hG.1 hP 0 rfl rfl 4 (by decide) (hts (.fieldLink RX2 39 "MappingDesk$Reader" "filled" "LMappingDesk$Table;") (by decide +kernel)) (fun _ h9 => h9) rfl dX2_addSegment_78 ?_
            refine lv_aload_n hx hb dX2_addSegment_81 rfl (lv_at hl 0 rfl) ?_
            refine va_get (D := (dC, dI)) (ci := 2) (v := .ref r3) (C := RX2) (T := TX2) (N := 11) hx hb hts inc_X2_addSegment_2 hown hG.1 hP 0 rfl rfl 3 (by decide) (hts (.fieldLink RX2 32 "MappingDesk$Reader" "segment" "LMappingDesk$Segment;") (by decide +kernel)) (fun _ h9 => h9) rfl dX2_addSegment_82 ?_
            have p_68 : 0 ≤ cn.toInt := by
              first | exact hn0 | assumption
            have p_69 : cn.toInt ≤ 300 := by
              first | exact hn1 | assumption
            have hPc := hP.sub (ws' := [(r4, .inr (4, [.ref q0, .ref q1, .ref q2, .ref q3, .ref q4, .ref q5, .int cn])), (q0, .inl (cI, 300, .inl t0)), (q1, .inl (cI, 300, .inl t1)), (q2, .inl (cI, 300, .inl t2)), (q3, .inl (cI, 300, .inl t3)), (q4, .inl (cI, 300, .inl t4)), (q5, .inl (cI, 300, .inl t5)), (r3, .inr (3, [.int r_64.2.1, .int r_64.2.2.1, .int r_64.2.2.2.1, .int r_64.2.2.2.2.1, .int r_64.2.2.2.2.2.1, .int r_64.2.2.2.2.2.2]))]) [4, 5, 6, 7, 8, 9, 10, 3] rfl
            have hDc := hD.sub (ws' := [(r4, .inr (4, [.ref q0, .ref q1, .ref q2, .ref q3, .ref q4, .ref q5, .int cn])), (q0, .inl (cI, 300, .inl t0)), (q1, .inl (cI, 300, .inl t1)), (q2, .inl (cI, 300, .inl t2)), (q3, .inl (cI, 300, .inl t3)), (q4, .inl (cI, 300, .inl t4)), (q5, .inl (cI, 300, .inl t5)), (r3, .inr (3, [.int r_64.2.1, .int r_64.2.2.1, .int r_64.2.2.2.1, .int r_64.2.2.2.2.1, .int r_64.2.2.2.2.2.1, .int r_64.2.2.2.2.2.2]))]) [4, 5, 6, 7, 8, 9, 10, 3] (by decide) rfl
            have hFc := va_free (wc := [(r4, .inr (4, [.ref q0, .ref q1, .ref q2, .ref q3, .ref q4, .ref q5, .int cn])), (q0, .inl (cI, 300, .inl t0)), (q1, .inl (cI, 300, .inl t1)), (q2, .inl (cI, 300, .inl t2)), (q3, .inl (cI, 300, .inl t3)), (q4, .inl (cI, 300, .inl t4)), (q5, .inl (cI, 300, .inl t5)), (r3, .inr (3, [.int r_64.2.1, .int r_64.2.2.1, .int r_64.2.2.2.1, .int r_64.2.2.2.2.1, .int r_64.2.2.2.2.2.1, .int r_64.2.2.2.2.2.2]))]) hD hS hA [4, 5, 6, 7, 8, 9, 10, 3] rfl
            refine va_callv (va_runVN (C := RX4) (As := [.ref r3]) (rest := []) ⟨hx, hb, hml, hown, hts⟩ (c_X4_insert l dC dI cB cC cI cJ H.size r4 r3 q0 q1 q2 q3 q4 q5 cn t0 t1 t2 t3 t4 t5 r_64.2.1 r_64.2.2.1 r_64.2.2.2.1 r_64.2.2.2.2.1 r_64.2.2.2.2.2.1 r_64.2.2.2.2.2.2 p_68 p_69) ⟨va_cnB 1 hts gX2_addSegment_X4_insert_n138 rfl rfl rfl (hG.nm (A := #[]) (w := .methodLinkNest RX2 138 yX4_insert "MappingDesk") (by decide +kernel)) (hts (.initialized RX4) (by decide +kernel)) (by decide +kernel) ⟨(Nat.le_of_ble_eq_true rfl), (Nat.le_of_ble_eq_true rfl)⟩, hts (.instanceMethod yX4_insert) (by decide +kernel), hts (.selects RX4 yX4_insert yX4_insert) (by decide +kernel)⟩ ⟨cP_blind, va_recv hG.1 hPc (ci := 4) (q0 := 0) rfl rfl, cP_pre hPc hG hDc⟩ rfl rfl hl.1 rfl (lv_room (Nat.le_of_ble_eq_true rfl)) dX2_addSegment_85 ⟨Nat.le_of_ble_eq_true rfl, Nat.le_of_ble_eq_true rfl⟩) hS (fun q _ h => hFc q h) hFc (fun u t H1 locs ht hvm hw hB hz1 hk1 hS => ?_)
            obtain ⟨hP1, hD1⟩ := hB
            rw [ht] at hP1
            generalize hr_70 : fX4_insert cn t0 t1 t2 t3 t4 t5 r_64.2.1 r_64.2.2.1 r_64.2.2.2.1 r_64.2.2.2.2.1 r_64.2.2.2.2.2.1 r_64.2.2.2.2.2.2 = r_70 at hP1 hD1 hw
            have er_70_0 := hw
            rw [bnd_eq hr_70] at hR
            obtain ⟨hP, hD⟩ := va_join (wr := [(h0, .inr (2, [.ref r0, .ref r1, .ref r2, .ref r3, .ref r4, .int nc, .int ss, .int ib, .int li, .int ff, .int fp])), (r1, .inl (cJ, 5, .inr (.inl nb))), (r2, .inr (0, [.int a0, .int a1, .int a2, .int a3, .int a4]))]) (w1 := [(r4, .inr (4, [.ref q0, .ref q1, .ref q2, .ref q3, .ref q4, .ref q5, .int r_70.1])), (q0, .inl (cI, 300, .inl r_70.2.1)), (q1, .inl (cI, 300, .inl r_70.2.2.1)), (q2, .inl (cI, 300, .inl r_70.2.2.2.1)), (q3, .inl (cI, 300, .inl r_70.2.2.2.2.1)), (q4, .inl (cI, 300, .inl r_70.2.2.2.2.2.1)), (q5, .inl (cI, 300, .inl r_70.2.2.2.2.2.2)), (r3, .inr (3, [.int r_64.2.1, .int r_64.2.2.1, .int r_64.2.2.2.1, .int r_64.2.2.2.2.1, .int r_64.2.2.2.2.2.1, .int r_64.2.2.2.2.2.2]))]) hP hD [4, 5, 6, 7, 8, 9, 10, 3] [0, 1, 2] rfl rfl (by decide) (by decide) hk1 hFc hP1 hD1
            generalize H1 = H at hP hS ⊢
            have hP := hP.sub (ws' := [(h0, .inr (2, [.ref r0, .ref r1, .ref r2, .ref r3, .ref r4, .int nc, .int ss, .int ib, .int li, .int ff, .int fp])), (r1, .inl (cJ, 5, .inr (.inl nb))), (r2, .inr (0, [.int a0, .int a1, .int a2, .int a3, .int a4])), (r3, .inr (3, [.int r_64.2.1, .int r_64.2.2.1, .int r_64.2.2.2.1, .int r_64.2.2.2.2.1, .int r_64.2.2.2.2.2.1, .int r_64.2.2.2.2.2.2])), (r4, .inr (4, [.ref q0, .ref q1, .ref q2, .ref q3, .ref q4, .ref q5, .int r_70.1])), (q0, .inl (cI, 300, .inl r_70.2.1)), (q1, .inl (cI, 300, .inl r_70.2.2.1)), (q2, .inl (cI, 300, .inl r_70.2.2.2.1)), (q3, .inl (cI, 300, .inl r_70.2.2.2.2.1)), (q4, .inl (cI, 300, .inl r_70.2.2.2.2.2.1)), (q5, .inl (cI, 300, .inl r_70.2.2.2.2.2.2))]) [0, 1, 2, 10, 3, 4, 5, 6, 7, 8, 9] rfl
            have hD := hD.sub (ws' := [(h0, .inr (2, [.ref r0, .ref r1, .ref r2, .ref r3, .ref r4, .int nc, .int ss, .int ib, .int li, .int ff, .int fp])), (r1, .inl (cJ, 5, .inr (.inl nb))), (r2, .inr (0, [.int a0, .int a1, .int a2, .int a3, .int a4])), (r3, .inr (3, [.int r_64.2.1, .int r_64.2.2.1, .int r_64.2.2.2.1, .int r_64.2.2.2.2.1, .int r_64.2.2.2.2.2.1, .int r_64.2.2.2.2.2.2])), (r4, .inr (4, [.ref q0, .ref q1, .ref q2, .ref q3, .ref q4, .ref q5, .int r_70.1])), (q0, .inl (cI, 300, .inl r_70.2.1)), (q1, .inl (cI, 300, .inl r_70.2.2.1)), (q2, .inl (cI, 300, .inl r_70.2.2.2.1)), (q3, .inl (cI, 300, .inl r_70.2.2.2.2.1)), (q4, .inl (cI, 300, .inl r_70.2.2.2.2.2.1)), (q5, .inl (cI, 300, .inl r_70.2.2.2.2.2.2))]) [0, 1, 2, 10, 3, 4, 5, 6, 7, 8, 9] (by decide) rfl
            refine lv_aload_n hx hb dX2_addSegment_88 rfl (lv_at hl 0 rfl) ?_
            refine va_get (D := (dC, dI)) (ci := 2) (v := .ref r2) (C := RX2) (T := TX2) (N := 11) hx hb hts inc_X2_addSegment_2 hown hG.1 hP 0 rfl rfl 2 (by decide) (hts (.fieldLink RX2 25 "MappingDesk$Reader" "ahead" "LMappingDesk$Ahead;") (by decide +kernel)) (fun _ h9 => h9) rfl dX2_addSegment_89 ?_
            refine lv_aload_n hx hb dX2_addSegment_92 rfl (lv_at hl 0 rfl) ?_
            refine va_get (D := (dC, dI)) (ci := 2) (v := .ref r3) (C := RX2) (T := TX2) (N := 11) hx hb hts inc_X2_addSegment_2 hown hG.1 hP 0 rfl rfl 3 (by decide) (hts (.fieldLink RX2 32 "MappingDesk$Reader" "segment" "LMappingDesk$Segment;") (by decide +kernel)) (fun _ h9 => h9) rfl dX2_addSegment_93 ?_
            have hPc := hP.sub (ws' := [(r2, .inr (0, [.int a0, .int a1, .int a2, .int a3, .int a4])), (r3, .inr (3, [.int r_64.2.1, .int r_64.2.2.1, .int r_64.2.2.2.1, .int r_64.2.2.2.2.1, .int r_64.2.2.2.2.2.1, .int r_64.2.2.2.2.2.2]))]) [2, 3] rfl
            have hDc := hD.sub (ws' := [(r2, .inr (0, [.int a0, .int a1, .int a2, .int a3, .int a4])), (r3, .inr (3, [.int r_64.2.1, .int r_64.2.2.1, .int r_64.2.2.2.1, .int r_64.2.2.2.2.1, .int r_64.2.2.2.2.2.1, .int r_64.2.2.2.2.2.2]))]) [2, 3] (by decide) rfl
            have hFc := va_free (wc := [(r2, .inr (0, [.int a0, .int a1, .int a2, .int a3, .int a4])), (r3, .inr (3, [.int r_64.2.1, .int r_64.2.2.1, .int r_64.2.2.2.1, .int r_64.2.2.2.2.1, .int r_64.2.2.2.2.2.1, .int r_64.2.2.2.2.2.2]))]) hD hS hA [2, 3] rfl
            refine va_callv (va_runVN (C := RX0) (As := [.ref r3]) (rest := []) ⟨hx, hb, hml, hown, hts⟩ (c_X0_pass l dC dI cB cC cI cJ H.size r2 r3 a0 a1 a2 a3 a4 r_64.2.1 r_64.2.2.1 r_64.2.2.2.1 r_64.2.2.2.2.1 r_64.2.2.2.2.2.1 r_64.2.2.2.2.2.2 ) ⟨va_cnB 1 hts gX2_addSegment_X0_pass_n142 rfl rfl rfl (hG.nm (A := #[]) (w := .methodLinkNest RX2 142 yX0_pass "MappingDesk") (by decide +kernel)) (hts (.initialized RX0) (by decide +kernel)) (by decide +kernel) ⟨(Nat.le_of_ble_eq_true rfl), (Nat.le_of_ble_eq_true rfl)⟩, hts (.instanceMethod yX0_pass) (by decide +kernel), hts (.selects RX0 yX0_pass yX0_pass) (by decide +kernel)⟩ ⟨cP_blind, va_recv hG.1 hPc (ci := 0) (q0 := 0) rfl rfl, cP_pre hPc hG hDc⟩ rfl rfl hl.1 rfl (lv_room (Nat.le_of_ble_eq_true rfl)) dX2_addSegment_96 ⟨Nat.le_of_ble_eq_true rfl, Nat.le_of_ble_eq_true rfl⟩) hS (fun q _ h => hFc q h) hFc (fun u t H1 locs ht hvm hw hB hz1 hk1 hS => ?_)
            obtain ⟨hP1, hD1⟩ := hB
            rw [ht] at hP1
            generalize hr_71 : fX0_pass a0 a1 a2 a3 a4 r_64.2.1 r_64.2.2.1 r_64.2.2.2.1 r_64.2.2.2.2.1 r_64.2.2.2.2.2.1 r_64.2.2.2.2.2.2 = r_71 at hP1 hD1
            rw [bnd_eq hr_71] at hR
            obtain ⟨hP, hD⟩ := va_join (wr := [(h0, .inr (2, [.ref r0, .ref r1, .ref r2, .ref r3, .ref r4, .int nc, .int ss, .int ib, .int li, .int ff, .int fp])), (r1, .inl (cJ, 5, .inr (.inl nb))), (r4, .inr (4, [.ref q0, .ref q1, .ref q2, .ref q3, .ref q4, .ref q5, .int r_70.1])), (q0, .inl (cI, 300, .inl r_70.2.1)), (q1, .inl (cI, 300, .inl r_70.2.2.1)), (q2, .inl (cI, 300, .inl r_70.2.2.2.1)), (q3, .inl (cI, 300, .inl r_70.2.2.2.2.1)), (q4, .inl (cI, 300, .inl r_70.2.2.2.2.2.1)), (q5, .inl (cI, 300, .inl r_70.2.2.2.2.2.2))]) (w1 := [(r2, .inr (0, [.int r_71.1, .int r_71.2.1, .int r_71.2.2.1, .int r_71.2.2.2.1, .int r_71.2.2.2.2])), (r3, .inr (3, [.int r_64.2.1, .int r_64.2.2.1, .int r_64.2.2.2.1, .int r_64.2.2.2.2.1, .int r_64.2.2.2.2.2.1, .int r_64.2.2.2.2.2.2]))]) hP hD [2, 3] [0, 1, 4, 5, 6, 7, 8, 9, 10] rfl rfl (by decide) (by decide) hk1 hFc hP1 hD1
            generalize H1 = H at hP hS ⊢
            have hP := hP.sub (ws' := [(h0, .inr (2, [.ref r0, .ref r1, .ref r2, .ref r3, .ref r4, .int nc, .int ss, .int ib, .int li, .int ff, .int fp])), (r1, .inl (cJ, 5, .inr (.inl nb))), (r2, .inr (0, [.int r_71.1, .int r_71.2.1, .int r_71.2.2.1, .int r_71.2.2.2.1, .int r_71.2.2.2.2])), (r3, .inr (3, [.int r_64.2.1, .int r_64.2.2.1, .int r_64.2.2.2.1, .int r_64.2.2.2.2.1, .int r_64.2.2.2.2.2.1, .int r_64.2.2.2.2.2.2])), (r4, .inr (4, [.ref q0, .ref q1, .ref q2, .ref q3, .ref q4, .ref q5, .int r_70.1])), (q0, .inl (cI, 300, .inl r_70.2.1)), (q1, .inl (cI, 300, .inl r_70.2.2.1)), (q2, .inl (cI, 300, .inl r_70.2.2.2.1)), (q3, .inl (cI, 300, .inl r_70.2.2.2.2.1)), (q4, .inl (cI, 300, .inl r_70.2.2.2.2.2.1)), (q5, .inl (cI, 300, .inl r_70.2.2.2.2.2.2))]) [0, 1, 9, 10, 2, 3, 4, 5, 6, 7, 8] rfl
            have hD := hD.sub (ws' := [(h0, .inr (2, [.ref r0, .ref r1, .ref r2, .ref r3, .ref r4, .int nc, .int ss, .int ib, .int li, .int ff, .int fp])), (r1, .inl (cJ, 5, .inr (.inl nb))), (r2, .inr (0, [.int r_71.1, .int r_71.2.1, .int r_71.2.2.1, .int r_71.2.2.2.1, .int r_71.2.2.2.2])), (r3, .inr (3, [.int r_64.2.1, .int r_64.2.2.1, .int r_64.2.2.2.1, .int r_64.2.2.2.2.1, .int r_64.2.2.2.2.2.1, .int r_64.2.2.2.2.2.2])), (r4, .inr (4, [.ref q0, .ref q1, .ref q2, .ref q3, .ref q4, .ref q5, .int r_70.1])), (q0, .inl (cI, 300, .inl r_70.2.1)), (q1, .inl (cI, 300, .inl r_70.2.2.1)), (q2, .inl (cI, 300, .inl r_70.2.2.2.1)), (q3, .inl (cI, 300, .inl r_70.2.2.2.2.1)), (q4, .inl (cI, 300, .inl r_70.2.2.2.2.2.1)), (q5, .inl (cI, 300, .inl r_70.2.2.2.2.2.2))]) [0, 1, 9, 10, 2, 3, 4, 5, 6, 7, 8] (by decide) rfl
            have e_72 : 0 ≤ (r_70.1 : Int32).toInt ∧ (r_70.1 : Int32).toInt ≤ 300 := by
              have k_73 : (1 : Int32).toInt = 1 := by decide
              have q_74 := i_ne c_1
              have k_75 : (4 : Int32).toInt = 4 := by decide
              have q_76 := i_ne c_29
              have k_77 : (5 : Int32).toInt = 5 := by decide
              have q_78 := i_eq c_63
              have k_79 : (0 : Int32).toInt = 0 := by decide
              have q_80 := i_ne c_65
              have q_81 := i_eq c_67
              try generalize Int32.toInt r_64.1 = z0 at *
              try generalize Int32.toInt r_70.1 = z1 at *
              try generalize Int32.toInt r_66 = z2 at *
              try generalize Int32.toInt cn = z3 at *
              try generalize Int32.toInt nc = z4 at *
              try generalize Int32.toInt (0 : Int32) = z5 at *
              try generalize Int32.toInt (1 : Int32) = z6 at *
              try generalize Int32.toInt (4 : Int32) = z7 at *
              try generalize Int32.toInt (5 : Int32) = z8 at *
              omega
            subst hR
            exact W.vret hx hb hr (fun t ht hW => ⟨⟨(), rfl, e_72, by rw [ht]; exact hP, hD⟩, hS.F ht⟩) hS.2.2 dX2_addSegment_99
          · rw [if_neg c_67] at hR
            refine lv_aload_n hx hb dX2_addSegment_65 rfl (lv_at hl 0 rfl) ?_
            refine lv_iconst (v := 5) hx hb dX2_addSegment_66 (by decide) ?_
            refine lv_aload_n hx hb dX2_addSegment_67 rfl (lv_at hl 0 rfl) ?_
            refine va_get (D := (dC, dI)) (ci := 2) (v := .int ss) (C := RX2) (T := TX2) (N := 11) hx hb hts inc_X2_addSegment_2 hown hG.1 hP 0 rfl rfl 6 (by decide) (hts (.fieldLink RX2 79 "MappingDesk$Reader" "segmentStart" "I") (by decide +kernel)) (fun _ h9 => h9) rfl dX2_addSegment_68 ?_
            have hPc := hP.sub (ws' := [(h0, .inr (2, [.ref r0, .ref r1, .ref r2, .ref r3, .ref r4, .int nc, .int ss, .int ib, .int li, .int ff, .int fp]))]) [0] rfl
            have hDc := hD.sub (ws' := [(h0, .inr (2, [.ref r0, .ref r1, .ref r2, .ref r3, .ref r4, .int nc, .int ss, .int ib, .int li, .int ff, .int fp]))]) [0] (by decide) rfl
            have hFc := va_free (wc := [(h0, .inr (2, [.ref r0, .ref r1, .ref r2, .ref r3, .ref r4, .int nc, .int ss, .int ib, .int li, .int ff, .int fp]))]) hD hS hA [0] rfl
            refine va_callv (va_runV (As := [.int 5, .int ss]) (rest := []) ⟨hx, hb, hml, hown, hts⟩ (c_X2_refuse l dC dI cB cC cI cJ H.size h0 r0 r1 r2 r3 r4 nc ss ib li ff fp 5 ss ) (cwV 2 hts gX2_addSegment_X2_refuse rfl rfl rfl (by decide +kernel) ⟨(Nat.le_of_ble_eq_true rfl), (Nat.le_of_ble_eq_true rfl)⟩) ⟨cP_blind, va_recv hG.1 hPc (ci := 2) (q0 := 0) rfl rfl, cP_pre hPc hG hDc⟩ rfl rfl hl.1 rfl (lv_room (Nat.le_of_ble_eq_true rfl)) dX2_addSegment_71 ⟨Nat.le_of_ble_eq_true rfl, Nat.le_of_ble_eq_true rfl⟩) hS (fun q _ h => hFc q h) hFc (fun u t H1 locs ht hvm hw hB hz1 hk1 hS => ?_)
            obtain ⟨hP1, hD1⟩ := hB
            rw [ht] at hP1
            generalize hr_82 : fX2_refuse nc ss ib li ff fp 5 ss = r_82 at hP1 hD1
            rw [bnd_eq hr_82] at hR
            obtain ⟨hP, hD⟩ := va_join (wr := [(r1, .inl (cJ, 5, .inr (.inl nb))), (r2, .inr (0, [.int a0, .int a1, .int a2, .int a3, .int a4])), (r3, .inr (3, [.int r_64.2.1, .int r_64.2.2.1, .int r_64.2.2.2.1, .int r_64.2.2.2.2.1, .int r_64.2.2.2.2.2.1, .int r_64.2.2.2.2.2.2])), (r4, .inr (4, [.ref q0, .ref q1, .ref q2, .ref q3, .ref q4, .ref q5, .int cn])), (q0, .inl (cI, 300, .inl t0)), (q1, .inl (cI, 300, .inl t1)), (q2, .inl (cI, 300, .inl t2)), (q3, .inl (cI, 300, .inl t3)), (q4, .inl (cI, 300, .inl t4)), (q5, .inl (cI, 300, .inl t5))]) (w1 := [(h0, .inr (2, [.ref r0, .ref r1, .ref r2, .ref r3, .ref r4, .int nc, .int ss, .int ib, .int li, .int r_82.1, .int r_82.2]))]) hP hD [0] [1, 2, 3, 4, 5, 6, 7, 8, 9, 10] rfl rfl (by decide) (by decide) hk1 hFc hP1 hD1
            generalize H1 = H at hP hS ⊢
            have hP := hP.sub (ws' := [(h0, .inr (2, [.ref r0, .ref r1, .ref r2, .ref r3, .ref r4, .int nc, .int ss, .int ib, .int li, .int r_82.1, .int r_82.2])), (r1, .inl (cJ, 5, .inr (.inl nb))), (r2, .inr (0, [.int a0, .int a1, .int a2, .int a3, .int a4])), (r3, .inr (3, [.int r_64.2.1, .int r_64.2.2.1, .int r_64.2.2.2.1, .int r_64.2.2.2.2.1, .int r_64.2.2.2.2.2.1, .int r_64.2.2.2.2.2.2])), (r4, .inr (4, [.ref q0, .ref q1, .ref q2, .ref q3, .ref q4, .ref q5, .int cn])), (q0, .inl (cI, 300, .inl t0)), (q1, .inl (cI, 300, .inl t1)), (q2, .inl (cI, 300, .inl t2)), (q3, .inl (cI, 300, .inl t3)), (q4, .inl (cI, 300, .inl t4)), (q5, .inl (cI, 300, .inl t5))]) [10, 0, 1, 2, 3, 4, 5, 6, 7, 8, 9] rfl
            have hD := hD.sub (ws' := [(h0, .inr (2, [.ref r0, .ref r1, .ref r2, .ref r3, .ref r4, .int nc, .int ss, .int ib, .int li, .int r_82.1, .int r_82.2])), (r1, .inl (cJ, 5, .inr (.inl nb))), (r2, .inr (0, [.int a0, .int a1, .int a2, .int a3, .int a4])), (r3, .inr (3, [.int r_64.2.1, .int r_64.2.2.1, .int r_64.2.2.2.1, .int r_64.2.2.2.2.1, .int r_64.2.2.2.2.2.1, .int r_64.2.2.2.2.2.2])), (r4, .inr (4, [.ref q0, .ref q1, .ref q2, .ref q3, .ref q4, .ref q5, .int cn])), (q0, .inl (cI, 300, .inl t0)), (q1, .inl (cI, 300, .inl t1)), (q2, .inl (cI, 300, .inl t2)), (q3, .inl (cI, 300, .inl t3)), (q4, .inl (cI, 300, .inl t4)), (q5, .inl (cI, 300, .inl t5))]) [10, 0, 1, 2, 3, 4, 5, 6, 7, 8, 9] (by decide) rfl
            refine lv_goto (tgt := 99) hx hb dX2_addSegment_74 (by decide) ?_
            have e_83 : 0 ≤ (cn : Int32).toInt ∧ (cn : Int32).toInt ≤ 300 := by
              have k_84 : (1 : Int32).toInt = 1 := by decide
              have q_85 := i_ne c_1
              have k_86 : (4 : Int32).toInt = 4 := by decide
              have q_87 := i_ne c_29
              have k_88 : (5 : Int32).toInt = 5 := by decide
              have q_89 := i_eq c_63
              have k_90 : (0 : Int32).toInt = 0 := by decide
              have q_91 := i_ne c_65
              have q_92 := i_ne c_67
              try generalize Int32.toInt r_64.1 = z0 at *
              try generalize Int32.toInt r_66 = z1 at *
              try generalize Int32.toInt cn = z2 at *
              try generalize Int32.toInt nc = z3 at *
              try generalize Int32.toInt (0 : Int32) = z4 at *
              try generalize Int32.toInt (1 : Int32) = z5 at *
              try generalize Int32.toInt (4 : Int32) = z6 at *
              try generalize Int32.toInt (5 : Int32) = z7 at *
              omega
            subst hR
            exact W.vret hx hb hr (fun t ht hW => ⟨⟨(), rfl, e_83, by rw [ht]; exact hP, hD⟩, hS.F ht⟩) hS.2.2 dX2_addSegment_99
        · rw [if_pos c_65] at hR
          refine lv_aload_n hx hb dX2_addSegment_43 rfl (lv_at hl 0 rfl) ?_
          refine lv_iconst (v := 4) hx hb dX2_addSegment_44 (by decide) ?_
          refine lv_aload_n hx hb dX2_addSegment_45 rfl (lv_at hl 0 rfl) ?_
          refine va_get (D := (dC, dI)) (ci := 2) (v := .int ss) (C := RX2) (T := TX2) (N := 11) hx hb hts inc_X2_addSegment_2 hown hG.1 hP 0 rfl rfl 6 (by decide) (hts (.fieldLink RX2 79 "MappingDesk$Reader" "segmentStart" "I") (by decide +kernel)) (fun _ h9 => h9) rfl dX2_addSegment_46 ?_
          have hPc := hP.sub (ws' := [(h0, .inr (2, [.ref r0, .ref r1, .ref r2, .ref r3, .ref r4, .int nc, .int ss, .int ib, .int li, .int ff, .int fp]))]) [0] rfl
          have hDc := hD.sub (ws' := [(h0, .inr (2, [.ref r0, .ref r1, .ref r2, .ref r3, .ref r4, .int nc, .int ss, .int ib, .int li, .int ff, .int fp]))]) [0] (by decide) rfl
          have hFc := va_free (wc := [(h0, .inr (2, [.ref r0, .ref r1, .ref r2, .ref r3, .ref r4, .int nc, .int ss, .int ib, .int li, .int ff, .int fp]))]) hD hS hA [0] rfl
          refine va_callv (va_runV (As := [.int 4, .int ss]) (rest := []) ⟨hx, hb, hml, hown, hts⟩ (c_X2_refuse l dC dI cB cC cI cJ H.size h0 r0 r1 r2 r3 r4 nc ss ib li ff fp 4 ss ) (cwV 2 hts gX2_addSegment_X2_refuse rfl rfl rfl (by decide +kernel) ⟨(Nat.le_of_ble_eq_true rfl), (Nat.le_of_ble_eq_true rfl)⟩) ⟨cP_blind, va_recv hG.1 hPc (ci := 2) (q0 := 0) rfl rfl, cP_pre hPc hG hDc⟩ rfl rfl hl.1 rfl (lv_room (Nat.le_of_ble_eq_true rfl)) dX2_addSegment_49 ⟨Nat.le_of_ble_eq_true rfl, Nat.le_of_ble_eq_true rfl⟩) hS (fun q _ h => hFc q h) hFc (fun u t H1 locs ht hvm hw hB hz1 hk1 hS => ?_)
          obtain ⟨hP1, hD1⟩ := hB
          rw [ht] at hP1
          generalize hr_93 : fX2_refuse nc ss ib li ff fp 4 ss = r_93 at hP1 hD1
          rw [bnd_eq hr_93] at hR
          obtain ⟨hP, hD⟩ := va_join (wr := [(r1, .inl (cJ, 5, .inr (.inl nb))), (r2, .inr (0, [.int a0, .int a1, .int a2, .int a3, .int a4])), (r3, .inr (3, [.int r_64.2.1, .int r_64.2.2.1, .int r_64.2.2.2.1, .int r_64.2.2.2.2.1, .int r_64.2.2.2.2.2.1, .int r_64.2.2.2.2.2.2])), (r4, .inr (4, [.ref q0, .ref q1, .ref q2, .ref q3, .ref q4, .ref q5, .int cn])), (q0, .inl (cI, 300, .inl t0)), (q1, .inl (cI, 300, .inl t1)), (q2, .inl (cI, 300, .inl t2)), (q3, .inl (cI, 300, .inl t3)), (q4, .inl (cI, 300, .inl t4)), (q5, .inl (cI, 300, .inl t5))]) (w1 := [(h0, .inr (2, [.ref r0, .ref r1, .ref r2, .ref r3, .ref r4, .int nc, .int ss, .int ib, .int li, .int r_93.1, .int r_93.2]))]) hP hD [0] [1, 2, 3, 4, 5, 6, 7, 8, 9, 10] rfl rfl (by decide) (by decide) hk1 hFc hP1 hD1
          generalize H1 = H at hP hS ⊢
          have hP := hP.sub (ws' := [(h0, .inr (2, [.ref r0, .ref r1, .ref r2, .ref r3, .ref r4, .int nc, .int ss, .int ib, .int li, .int r_93.1, .int r_93.2])), (r1, .inl (cJ, 5, .inr (.inl nb))), (r2, .inr (0, [.int a0, .int a1, .int a2, .int a3, .int a4])), (r3, .inr (3, [.int r_64.2.1, .int r_64.2.2.1, .int r_64.2.2.2.1, .int r_64.2.2.2.2.1, .int r_64.2.2.2.2.2.1, .int r_64.2.2.2.2.2.2])), (r4, .inr (4, [.ref q0, .ref q1, .ref q2, .ref q3, .ref q4, .ref q5, .int cn])), (q0, .inl (cI, 300, .inl t0)), (q1, .inl (cI, 300, .inl t1)), (q2, .inl (cI, 300, .inl t2)), (q3, .inl (cI, 300, .inl t3)), (q4, .inl (cI, 300, .inl t4)), (q5, .inl (cI, 300, .inl t5))]) [10, 0, 1, 2, 3, 4, 5, 6, 7, 8, 9] rfl
          have hD := hD.sub (ws' := [(h0, .inr (2, [.ref r0, .ref r1, .ref r2, .ref r3, .ref r4, .int nc, .int ss, .int ib, .int li, .int r_93.1, .int r_93.2])), (r1, .inl (cJ, 5, .inr (.inl nb))), (r2, .inr (0, [.int a0, .int a1, .int a2, .int a3, .int a4])), (r3, .inr (3, [.int r_64.2.1, .int r_64.2.2.1, .int r_64.2.2.2.1, .int r_64.2.2.2.2.1, .int r_64.2.2.2.2.2.1, .int r_64.2.2.2.2.2.2])), (r4, .inr (4, [.ref q0, .ref q1, .ref q2, .ref q3, .ref q4, .ref q5, .int cn])), (q0, .inl (cI, 300, .inl t0)), (q1, .inl (cI, 300, .inl t1)), (q2, .inl (cI, 300, .inl t2)), (q3, .inl (cI, 300, .inl t3)), (q4, .inl (cI, 300, .inl t4)), (q5, .inl (cI, 300, .inl t5))]) [10, 0, 1, 2, 3, 4, 5, 6, 7, 8, 9] (by decide) rfl
          refine lv_goto (tgt := 99) hx hb dX2_addSegment_52 (by decide) ?_
          have e_94 : 0 ≤ (cn : Int32).toInt ∧ (cn : Int32).toInt ≤ 300 := by
            have k_95 : (1 : Int32).toInt = 1 := by decide
            have q_96 := i_ne c_1
            have k_97 : (4 : Int32).toInt = 4 := by decide
            have q_98 := i_ne c_29
            have k_99 : (5 : Int32).toInt = 5 := by decide
            have q_100 := i_eq c_63
            have k_101 : (0 : Int32).toInt = 0 := by decide
            have q_102 := i_eq c_65
            try generalize Int32.toInt r_64.1 = z0 at *
            try generalize Int32.toInt cn = z1 at *
            try generalize Int32.toInt nc = z2 at *
            try generalize Int32.toInt (0 : Int32) = z3 at *
            try generalize Int32.toInt (1 : Int32) = z4 at *
            try generalize Int32.toInt (4 : Int32) = z5 at *
            try generalize Int32.toInt (5 : Int32) = z6 at *
            omega
          subst hR
          exact W.vret hx hb hr (fun t ht hW => ⟨⟨(), rfl, e_94, by rw [ht]; exact hP, hD⟩, hS.F ht⟩) hS.2.2 dX2_addSegment_99
      · rw [if_neg c_63] at hR
        refine lv_aload_n hx hb dX2_addSegment_24 rfl (lv_at hl 0 rfl) ?_
        refine lv_iconst (v := 3) hx hb dX2_addSegment_25 (by decide) ?_
        refine lv_aload_n hx hb dX2_addSegment_26 rfl (lv_at hl 0 rfl) ?_
        refine va_get (D := (dC, dI)) (ci := 2) (v := .int ss) (C := RX2) (T := TX2) (N := 11) hx hb hts inc_X2_addSegment_2 hown hG.1 hP 0 rfl rfl 6 (by decide) (hts (.fieldLink RX2 79 "MappingDesk$Reader" "segmentStart" "I") (by decide +kernel)) (fun _ h9 => h9) rfl dX2_addSegment_27 ?_
        have hPc := hP.sub (ws' := [(h0, .inr (2, [.ref r0, .ref r1, .ref r2, .ref r3, .ref r4, .int nc, .int ss, .int ib, .int li, .int ff, .int fp]))]) [0] rfl
        have hDc := hD.sub (ws' := [(h0, .inr (2, [.ref r0, .ref r1, .ref r2, .ref r3, .ref r4, .int nc, .int ss, .int ib, .int li, .int ff, .int fp]))]) [0] (by decide) rfl
        have hFc := va_free (wc := [(h0, .inr (2, [.ref r0, .ref r1, .ref r2, .ref r3, .ref r4, .int nc, .int ss, .int ib, .int li, .int ff, .int fp]))]) hD hS hA [0] rfl
        refine va_callv (va_runV (As := [.int 3, .int ss]) (rest := []) ⟨hx, hb, hml, hown, hts⟩ (c_X2_refuse l dC dI cB cC cI cJ H.size h0 r0 r1 r2 r3 r4 nc ss ib li ff fp 3 ss ) (cwV 2 hts gX2_addSegment_X2_refuse rfl rfl rfl (by decide +kernel) ⟨(Nat.le_of_ble_eq_true rfl), (Nat.le_of_ble_eq_true rfl)⟩) ⟨cP_blind, va_recv hG.1 hPc (ci := 2) (q0 := 0) rfl rfl, cP_pre hPc hG hDc⟩ rfl rfl hl.1 rfl (lv_room (Nat.le_of_ble_eq_true rfl)) dX2_addSegment_30 ⟨Nat.le_of_ble_eq_true rfl, Nat.le_of_ble_eq_true rfl⟩) hS (fun q _ h => hFc q h) hFc (fun u t H1 locs ht hvm hw hB hz1 hk1 hS => ?_)
        obtain ⟨hP1, hD1⟩ := hB
        rw [ht] at hP1
        generalize hr_103 : fX2_refuse nc ss ib li ff fp 3 ss = r_103 at hP1 hD1
        rw [bnd_eq hr_103] at hR
        obtain ⟨hP, hD⟩ := va_join (wr := [(r1, .inl (cJ, 5, .inr (.inl nb))), (r2, .inr (0, [.int a0, .int a1, .int a2, .int a3, .int a4])), (r3, .inr (3, [.int g0, .int g1, .int g2, .int g3, .int g4, .int g5])), (r4, .inr (4, [.ref q0, .ref q1, .ref q2, .ref q3, .ref q4, .ref q5, .int cn])), (q0, .inl (cI, 300, .inl t0)), (q1, .inl (cI, 300, .inl t1)), (q2, .inl (cI, 300, .inl t2)), (q3, .inl (cI, 300, .inl t3)), (q4, .inl (cI, 300, .inl t4)), (q5, .inl (cI, 300, .inl t5))]) (w1 := [(h0, .inr (2, [.ref r0, .ref r1, .ref r2, .ref r3, .ref r4, .int nc, .int ss, .int ib, .int li, .int r_103.1, .int r_103.2]))]) hP hD [0] [1, 2, 3, 4, 5, 6, 7, 8, 9, 10] rfl rfl (by decide) (by decide) hk1 hFc hP1 hD1
        generalize H1 = H at hP hS ⊢
        have hP := hP.sub (ws' := [(h0, .inr (2, [.ref r0, .ref r1, .ref r2, .ref r3, .ref r4, .int nc, .int ss, .int ib, .int li, .int r_103.1, .int r_103.2])), (r1, .inl (cJ, 5, .inr (.inl nb))), (r2, .inr (0, [.int a0, .int a1, .int a2, .int a3, .int a4])), (r3, .inr (3, [.int g0, .int g1, .int g2, .int g3, .int g4, .int g5])), (r4, .inr (4, [.ref q0, .ref q1, .ref q2, .ref q3, .ref q4, .ref q5, .int cn])), (q0, .inl (cI, 300, .inl t0)), (q1, .inl (cI, 300, .inl t1)), (q2, .inl (cI, 300, .inl t2)), (q3, .inl (cI, 300, .inl t3)), (q4, .inl (cI, 300, .inl t4)), (q5, .inl (cI, 300, .inl t5))]) [10, 0, 1, 2, 3, 4, 5, 6, 7, 8, 9] rfl
        have hD := hD.sub (ws' := [(h0, .inr (2, [.ref r0, .ref r1, .ref r2, .ref r3, .ref r4, .int nc, .int ss, .int ib, .int li, .int r_103.1, .int r_103.2])), (r1, .inl (cJ, 5, .inr (.inl nb))), (r2, .inr (0, [.int a0, .int a1, .int a2, .int a3, .int a4])), (r3, .inr (3, [.int g0, .int g1, .int g2, .int g3, .int g4, .int g5])), (r4, .inr (4, [.ref q0, .ref q1, .ref q2, .ref q3, .ref q4, .ref q5, .int cn])), (q0, .inl (cI, 300, .inl t0)), (q1, .inl (cI, 300, .inl t1)), (q2, .inl (cI, 300, .inl t2)), (q3, .inl (cI, 300, .inl t3)), (q4, .inl (cI, 300, .inl t4)), (q5, .inl (cI, 300, .inl t5))]) [10, 0, 1, 2, 3, 4, 5, 6, 7, 8, 9] (by decide) rfl
        refine lv_goto (tgt := 99) hx hb dX2_addSegment_33 (by decide) ?_
        have e_104 : 0 ≤ (cn : Int32).toInt ∧ (cn : Int32).toInt ≤ 300 := by
          have k_105 : (1 : Int32).toInt = 1 := by decide
          have q_106 := i_ne c_1
          have k_107 : (4 : Int32).toInt = 4 := by decide
          have q_108 := i_ne c_29
          have k_109 : (5 : Int32).toInt = 5 := by decide
          have q_110 := i_ne c_63
          try generalize Int32.toInt cn = z0 at *
          try generalize Int32.toInt nc = z1 at *
          try generalize Int32.toInt (1 : Int32) = z2 at *
          try generalize Int32.toInt (4 : Int32) = z3 at *
          try generalize Int32.toInt (5 : Int32) = z4 at *
          omega
        subst hR
        exact W.vret hx hb hr (fun t ht hW => ⟨⟨(), rfl, e_104, by rw [ht]; exact hP, hD⟩, hS.F ht⟩) hS.2.2 dX2_addSegment_99

def fX2_endSegment (nc ss ib li ff fp : Int32) (n0 n1 : Int32) (n2 : Int64) (n3 n4 : Int32) (nb : Nat → Int64) (a0 a1 a2 a3 a4 : Int32) (g0 g1 g2 g3 g4 g5 : Int32) (cn : Int32) (t0 t1 t2 t3 t4 t5 : Nat → Int32) (x y : Int32) : Int32 × Int32 × Int32 × Int32 × Int32 × Int32 × Int32 × Int32 × Int32 × Int32 × Int32 × Int32 × Int32 × Int32 × Int32 × (Nat → Int32) × (Nat → Int32) × (Nat → Int32) × (Nat → Int32) × (Nat → Int32) × (Nat → Int32) :=
  if n0 = 0 then
    if nc ≤ 0 then
      if x = 0 then
        if ib = 0 then
          (0, ff, fp, a0, a1, a2, a3, a4, g0, g1, g2, g3, g4, g5, cn, t0, t1, t2, t3, t4, t5)
        else
          bnd (fX2_refuse nc ss ib li ff fp 3 y) fun r_28 =>
          (0, r_28.1, r_28.2, a0, a1, a2, a3, a4, g0, g1, g2, g3, g4, g5, cn, t0, t1, t2, t3, t4, t5)
      else
        bnd (fX2_refuse nc ss ib li ff fp 3 y) fun r_4 =>
        (0, r_4.1, r_4.2, a0, a1, a2, a3, a4, g0, g1, g2, g3, g4, g5, cn, t0, t1, t2, t3, t4, t5)
    else
      bnd (fX2_addSegment nc ss ib li ff fp nb a0 a1 a2 a3 a4 g0 g1 g2 g3 g4 g5 cn t0 t1 t2 t3 t4 t5) fun r_43 =>
      (0, r_43.1, r_43.2.1, r_43.2.2.1, r_43.2.2.2.1, r_43.2.2.2.2.1, r_43.2.2.2.2.2.1, r_43.2.2.2.2.2.2.1, r_43.2.2.2.2.2.2.2.1, r_43.2.2.2.2.2.2.2.2.1, r_43.2.2.2.2.2.2.2.2.2.1, r_43.2.2.2.2.2.2.2.2.2.2.1, r_43.2.2.2.2.2.2.2.2.2.2.2.1, r_43.2.2.2.2.2.2.2.2.2.2.2.2.1, r_43.2.2.2.2.2.2.2.2.2.2.2.2.2.1, r_43.2.2.2.2.2.2.2.2.2.2.2.2.2.2.1, r_43.2.2.2.2.2.2.2.2.2.2.2.2.2.2.2.1, r_43.2.2.2.2.2.2.2.2.2.2.2.2.2.2.2.2.1, r_43.2.2.2.2.2.2.2.2.2.2.2.2.2.2.2.2.2.1, r_43.2.2.2.2.2.2.2.2.2.2.2.2.2.2.2.2.2.2.1, r_43.2.2.2.2.2.2.2.2.2.2.2.2.2.2.2.2.2.2.2)
  else
    bnd (fX2_refuse nc ss ib li ff fp 2 y) fun r_52 =>
    (0, r_52.1, r_52.2, a0, a1, a2, a3, a4, g0, g1, g2, g3, g4, g5, cn, t0, t1, t2, t3, t4, t5)
theorem inc_X2_endSegment_2 : ∀ w ∈ u_ws RX2 TX2 11, w ∈ wsX2_endSegment := by decide +kernel
theorem inc_X2_endSegment_1 : ∀ w ∈ u_ws RX1 TX1 5, w ∈ wsX2_endSegment := by decide +kernel
set_option maxHeartbeats 4000000 in
set_option maxRecDepth 100000 in
theorem c_X2_endSegment (l : Launch) (dC : Nat → ClassId) (dI : Nat → Nat → Nat) (cB cC cI cJ : ClassId) (sz : Nat) (h0 r0 r1 r2 r3 r4 q0 q1 q2 q3 q4 q5 : Nat) (nc ss ib li ff fp : Int32) (n0 n1 : Int32) (n2 : Int64) (n3 n4 : Int32) (nb : Nat → Int64) (a0 a1 a2 a3 a4 : Int32) (g0 g1 g2 g3 g4 g5 : Int32) (cn : Int32) (t0 t1 t2 t3 t4 t5 : Nat → Int32) (x y : Int32) (hn0 : 0 ≤ cn.toInt) (hn1 : cn.toInt ≤ 300) : Met l yX2_endSegment wsX2_endSegment ({ frames := 4, cells := 0, slots := 0, locals := 104 } : Room) (cP dC dI cB cC cI cJ [.ref h0, .int x, .int y] sz [(h0, .inr (2, [.ref r0, .ref r1, .ref r2, .ref r3, .ref r4, .int nc, .int ss, .int ib, .int li, .int ff, .int fp])), (r0, .inr (1, [.int n0, .int n1, .long n2, .int n3, .int n4])), (r1, .inl (cJ, 5, .inr (.inl nb))), (r2, .inr (0, [.int a0, .int a1, .int a2, .int a3, .int a4])), (r3, .inr (3, [.int g0, .int g1, .int g2, .int g3, .int g4, .int g5])), (r4, .inr (4, [.ref q0, .ref q1, .ref q2, .ref q3, .ref q4, .ref q5, .int cn])), (q0, .inl (cI, 300, .inl t0)), (q1, .inl (cI, 300, .inl t1)), (q2, .inl (cI, 300, .inl t2)), (q3, .inl (cI, 300, .inl t3)), (q4, .inl (cI, 300, .inl t4)), (q5, .inl (cI, 300, .inl t5))]) (va_Qv (fun _ => (0 ≤ (fX2_endSegment nc ss ib li ff fp n0 n1 n2 n3 n4 nb a0 a1 a2 a3 a4 g0 g1 g2 g3 g4 g5 cn t0 t1 t2 t3 t4 t5 x y).2.2.2.2.2.2.2.2.2.2.2.2.2.2.1.toInt ∧ (fX2_endSegment nc ss ib li ff fp n0 n1 n2 n3 n4 nb a0 a1 a2 a3 a4 g0 g1 g2 g3 g4 g5 cn t0 t1 t2 t3 t4 t5 x y).2.2.2.2.2.2.2.2.2.2.2.2.2.2.1.toInt ≤ 300) ∧ ((fX2_endSegment nc ss ib li ff fp n0 n1 n2 n3 n4 nb a0 a1 a2 a3 a4 g0 g1 g2 g3 g4 g5 cn t0 t1 t2 t3 t4 t5 x y).1.toInt = 0)) (cE dC dI (va_A [(h0, .inr (2, [.ref r0, .ref r1, .ref r2, .ref r3, .ref r4, .int nc, .int ss, .int ib, .int li, .int ff, .int fp])), (r0, .inr (1, [.int n0, .int n1, .long n2, .int n3, .int n4])), (r1, .inl (cJ, 5, .inr (.inl nb))), (r2, .inr (0, [.int a0, .int a1, .int a2, .int a3, .int a4])), (r3, .inr (3, [.int g0, .int g1, .int g2, .int g3, .int g4, .int g5])), (r4, .inr (4, [.ref q0, .ref q1, .ref q2, .ref q3, .ref q4, .ref q5, .int cn])), (q0, .inl (cI, 300, .inl t0)), (q1, .inl (cI, 300, .inl t1)), (q2, .inl (cI, 300, .inl t2)), (q3, .inl (cI, 300, .inl t3)), (q4, .inl (cI, 300, .inl t4)), (q5, .inl (cI, 300, .inl t5))] sz) [(h0, .inr (2, [.ref r0, .ref r1, .ref r2, .ref r3, .ref r4, .int (fX2_endSegment nc ss ib li ff fp n0 n1 n2 n3 n4 nb a0 a1 a2 a3 a4 g0 g1 g2 g3 g4 g5 cn t0 t1 t2 t3 t4 t5 x y).1, .int ss, .int ib, .int li, .int (fX2_endSegment nc ss ib li ff fp n0 n1 n2 n3 n4 nb a0 a1 a2 a3 a4 g0 g1 g2 g3 g4 g5 cn t0 t1 t2 t3 t4 t5 x y).2.1, .int (fX2_endSegment nc ss ib li ff fp n0 n1 n2 n3 n4 nb a0 a1 a2 a3 a4 g0 g1 g2 g3 g4 g5 cn t0 t1 t2 t3 t4 t5 x y).2.2.1])), (r0, .inr (1, [.int n0, .int n1, .long n2, .int n3, .int n4])), (r1, .inl (cJ, 5, .inr (.inl nb))), (r2, .inr (0, [.int (fX2_endSegment nc ss ib li ff fp n0 n1 n2 n3 n4 nb a0 a1 a2 a3 a4 g0 g1 g2 g3 g4 g5 cn t0 t1 t2 t3 t4 t5 x y).2.2.2.1, .int (fX2_endSegment nc ss ib li ff fp n0 n1 n2 n3 n4 nb a0 a1 a2 a3 a4 g0 g1 g2 g3 g4 g5 cn t0 t1 t2 t3 t4 t5 x y).2.2.2.2.1, .int (fX2_endSegment nc ss ib li ff fp n0 n1 n2 n3 n4 nb a0 a1 a2 a3 a4 g0 g1 g2 g3 g4 g5 cn t0 t1 t2 t3 t4 t5 x y).2.2.2.2.2.1, .int (fX2_endSegment nc ss ib li ff fp n0 n1 n2 n3 n4 nb a0 a1 a2 a3 a4 g0 g1 g2 g3 g4 g5 cn t0 t1 t2 t3 t4 t5 x y).2.2.2.2.2.2.1, .int (fX2_endSegment nc ss ib li ff fp n0 n1 n2 n3 n4 nb a0 a1 a2 a3 a4 g0 g1 g2 g3 g4 g5 cn t0 t1 t2 t3 t4 t5 x y).2.2.2.2.2.2.2.1])), (r3, .inr (3, [.int (fX2_endSegment nc ss ib li ff fp n0 n1 n2 n3 n4 nb a0 a1 a2 a3 a4 g0 g1 g2 g3 g4 g5 cn t0 t1 t2 t3 t4 t5 x y).2.2.2.2.2.2.2.2.1, .int (fX2_endSegment nc ss ib li ff fp n0 n1 n2 n3 n4 nb a0 a1 a2 a3 a4 g0 g1 g2 g3 g4 g5 cn t0 t1 t2 t3 t4 t5 x y).2.2.2.2.2.2.2.2.2.1, .int (fX2_endSegment nc ss ib li ff fp n0 n1 n2 n3 n4 nb a0 a1 a2 a3 a4 g0 g1 g2 g3 g4 g5 cn t0 t1 t2 t3 t4 t5 x y).2.2.2.2.2.2.2.2.2.2.1, .int (fX2_endSegment nc ss ib li ff fp n0 n1 n2 n3 n4 nb a0 a1 a2 a3 a4 g0 g1 g2 g3 g4 g5 cn t0 t1 t2 t3 t4 t5 x y).2.2.2.2.2.2.2.2.2.2.2.1, .int (fX2_endSegment nc ss ib li ff fp n0 n1 n2 n3 n4 nb a0 a1 a2 a3 a4 g0 g1 g2 g3 g4 g5 cn t0 t1 t2 t3 t4 t5 x y).2.2.2.2.2.2.2.2.2.2.2.2.1, .int (fX2_endSegment nc ss ib li ff fp n0 n1 n2 n3 n4 nb a0 a1 a2 a3 a4 g0 g1 g2 g3 g4 g5 cn t0 t1 t2 t3 t4 t5 x y).2.2.2.2.2.2.2.2.2.2.2.2.2.1])), (r4, .inr (4, [.ref q0, .ref q1, .ref q2, .ref q3, .ref q4, .ref q5, .int (fX2_endSegment nc ss ib li ff fp n0 n1 n2 n3 n4 nb a0 a1 a2 a3 a4 g0 g1 g2 g3 g4 g5 cn t0 t1 t2 t3 t4 t5 x y).2.2.2.2.2.2.2.2.2.2.2.2.2.2.1])), (q0, .inl (cI, 300, .inl (fX2_endSegment nc ss ib li ff fp n0 n1 n2 n3 n4 nb a0 a1 a2 a3 a4 g0 g1 g2 g3 g4 g5 cn t0 t1 t2 t3 t4 t5 x y).2.2.2.2.2.2.2.2.2.2.2.2.2.2.2.1)), (q1, .inl (cI, 300, .inl (fX2_endSegment nc ss ib li ff fp n0 n1 n2 n3 n4 nb a0 a1 a2 a3 a4 g0 g1 g2 g3 g4 g5 cn t0 t1 t2 t3 t4 t5 x y).2.2.2.2.2.2.2.2.2.2.2.2.2.2.2.2.1)), (q2, .inl (cI, 300, .inl (fX2_endSegment nc ss ib li ff fp n0 n1 n2 n3 n4 nb a0 a1 a2 a3 a4 g0 g1 g2 g3 g4 g5 cn t0 t1 t2 t3 t4 t5 x y).2.2.2.2.2.2.2.2.2.2.2.2.2.2.2.2.2.1)), (q3, .inl (cI, 300, .inl (fX2_endSegment nc ss ib li ff fp n0 n1 n2 n3 n4 nb a0 a1 a2 a3 a4 g0 g1 g2 g3 g4 g5 cn t0 t1 t2 t3 t4 t5 x y).2.2.2.2.2.2.2.2.2.2.2.2.2.2.2.2.2.2.1)), (q4, .inl (cI, 300, .inl (fX2_endSegment nc ss ib li ff fp n0 n1 n2 n3 n4 nb a0 a1 a2 a3 a4 g0 g1 g2 g3 g4 g5 cn t0 t1 t2 t3 t4 t5 x y).2.2.2.2.2.2.2.2.2.2.2.2.2.2.2.2.2.2.2.1)), (q5, .inl (cI, 300, .inl (fX2_endSegment nc ss ib li ff fp n0 n1 n2 n3 n4 nb a0 a1 a2 a3 a4 g0 g1 g2 g3 g4 g5 cn t0 t1 t2 t3 t4 t5 x y).2.2.2.2.2.2.2.2.2.2.2.2.2.2.2.2.2.2.2.2))]) (va_A [(h0, .inr (2, [.ref r0, .ref r1, .ref r2, .ref r3, .ref r4, .int nc, .int ss, .int ib, .int li, .int ff, .int fp])), (r0, .inr (1, [.int n0, .int n1, .long n2, .int n3, .int n4])), (r1, .inl (cJ, 5, .inr (.inl nb))), (r2, .inr (0, [.int a0, .int a1, .int a2, .int a3, .int a4])), (r3, .inr (3, [.int g0, .int g1, .int g2, .int g3, .int g4, .int g5])), (r4, .inr (4, [.ref q0, .ref q1, .ref q2, .ref q3, .ref q4, .ref q5, .int cn])), (q0, .inl (cI, 300, .inl t0)), (q1, .inl (cI, 300, .inl t1)), (q2, .inl (cI, 300, .inl t2)), (q3, .inl (cI, 300, .inl t3)), (q4, .inl (cI, 300, .inl t4)), (q5, .inl (cI, 300, .inl t5))] sz)) 0 0 (va_A [(h0, .inr (2, [.ref r0, .ref r1, .ref r2, .ref r3, .ref r4, .int nc, .int ss, .int ib, .int li, .int ff, .int fp])), (r0, .inr (1, [.int n0, .int n1, .long n2, .int n3, .int n4])), (r1, .inl (cJ, 5, .inr (.inl nb))), (r2, .inr (0, [.int a0, .int a1, .int a2, .int a3, .int a4])), (r3, .inr (3, [.int g0, .int g1, .int g2, .int g3, .int g4, .int g5])), (r4, .inr (4, [.ref q0, .ref q1, .ref q2, .ref q3, .ref q4, .ref q5, .int cn])), (q0, .inl (cI, 300, .inl t0)), (q1, .inl (cI, 300, .inl t1)), (q2, .inl (cI, 300, .inl t2)), (q3, .inl (cI, 300, .inl t3)), (q4, .inl (cI, 300, .inl t4)), (q5, .inl (cI, 300, .inl t5))] sz) := by
  refine Met.ofW (cc := cX2_endSegment) (maxL := 3) (ret := none) (by decide) rfl ?_
  intro p e s m args below meth c s₁ B hml hv
  obtain ⟨rfl, hsz, hP, hG, hD0⟩ := hv
  have hx := B.exec
  have hb := B.bytes
  have hr := B.returns
  have hts := atoms_spec (ws := wsX2_endSegment) B.pre
  have hown : s.vm.findClass RX2 = some m.cls := findClass_of_methodNamed B.named
  have hlocks := B.notSynchronized
  subst hsz
  have hD := hD0.self (sz := s.heap.size)
  generalize hAe : va_A [(h0, .inr (2, [.ref r0, .ref r1, .ref r2, .ref r3, .ref r4, .int nc, .int ss, .int ib, .int li, .int ff, .int fp])), (r0, .inr (1, [.int n0, .int n1, .long n2, .int n3, .int n4])), (r1, .inl (cJ, 5, .inr (.inl nb))), (r2, .inr (0, [.int a0, .int a1, .int a2, .int a3, .int a4])), (r3, .inr (3, [.int g0, .int g1, .int g2, .int g3, .int g4, .int g5])), (r4, .inr (4, [.ref q0, .ref q1, .ref q2, .ref q3, .ref q4, .ref q5, .int cn])), (q0, .inl (cI, 300, .inl t0)), (q1, .inl (cI, 300, .inl t1)), (q2, .inl (cI, 300, .inl t2)), (q3, .inl (cI, 300, .inl t3)), (q4, .inl (cI, 300, .inl t4)), (q5, .inl (cI, 300, .inl t5))] s.heap.size = A at hD ⊢
  have hA : ∀ q : Nat, s.heap.size ≤ q → A q := fun q h => by rw [← hAe]; exact Or.inr h
  obtain ⟨H, hH⟩ : ∃ H : Heap, H = s.heap := ⟨_, rfl⟩
  have hS : va_S A s.heap H [] := by rw [hH]; exact va_S.rf
  rw [← hH] at hP ⊢
  generalize hR : fX2_endSegment nc ss ib li ff fp n0 n1 n2 n3 n4 nb a0 a1 a2 a3 a4 g0 g1 g2 g3 g4 g5 cn t0 t1 t2 t3 t4 t5 x y = R
  unfold fX2_endSegment at hR
  have hl := lv_entry ([.ref h0, .int x, .int y]) (n := 3) (Nat.le_of_ble_eq_true rfl)
  rw [lg_entry_eq]
  generalize (lg_sl ([.ref h0, .int x, .int y]) ++ List.replicate (3 - (lg_sl ([.ref h0, .int x, .int y])).length) Slot.unset).toArray = ls at hl ⊢
  have hl : lv_has ls 3 [(0, .ref h0), (1, .int x), (2, .int y)] := hl
  refine lv_aload_n hx hb dX2_endSegment_0 rfl (lv_at hl 0 rfl) ?_
  refine va_get (D := (dC, dI)) (ci := 2) (v := .ref r0) (C := RX2) (T := TX2) (N := 11) hx hb hts inc_X2_endSegment_2 hown hG.1 hP 0 rfl rfl 0 (by decide) (hts (.fieldLink RX2 12 "MappingDesk$Reader" "number" "LMappingDesk$NumberTaker;") (by decide +kernel)) (fun _ h9 => h9) rfl dX2_endSegment_1 ?_
  refine va_getN (D := (dC, dI)) (ci := 1) (v := .int n0) (C := RX1) (T := TX1) (N := 5) hx hb hts inc_X2_endSegment_1 hown hG.1 hP 1 rfl rfl 0 (by decide) (hG.nf (a := RX2) (i := 111) (b := "MappingDesk$NumberTaker") (n := "isOpen") (d := "Z") (t := "MappingDesk") (by decide +kernel)) (fun _ h9 => h9) rfl dX2_endSegment_4 ?_
  refine lv_if_eq (tgt := 19) hx hb dX2_endSegment_7 (by decide) (fun c_1 => ?_) (fun c_1 => ?_)
  · rw [if_pos c_1] at hR
    refine lv_aload_n hx hb dX2_endSegment_19 rfl (lv_at hl 0 rfl) ?_
    refine va_get (D := (dC, dI)) (ci := 2) (v := .int nc) (C := RX2) (T := TX2) (N := 11) hx hb hts inc_X2_endSegment_2 hown hG.1 hP 0 rfl rfl 5 (by decide) (hts (.fieldLink RX2 76 "MappingDesk$Reader" "numberCount" "I") (by decide +kernel)) (fun _ h9 => h9) rfl dX2_endSegment_20 ?_
    refine lv_if_le (tgt := 33) hx hb dX2_endSegment_23 (by decide) (fun c_2 => ?_) (fun c_2 => ?_)
    · rw [if_pos c_2] at hR
      refine lv_iload_n hx hb dX2_endSegment_33 rfl (lv_at hl 1 rfl) ?_
      refine lv_if_ne (tgt := 44) hx hb dX2_endSegment_34 (by decide) (fun c_3 => ?_) (fun c_3 => ?_)
      · rw [if_neg c_3] at hR
        refine lv_aload_n hx hb dX2_endSegment_44 rfl (lv_at hl 0 rfl) ?_
        refine lv_iconst (v := 3) hx hb dX2_endSegment_45 (by decide) ?_
        refine lv_iload_n hx hb dX2_endSegment_46 rfl (lv_at hl 2 rfl) ?_
        have hPc := hP.sub (ws' := [(h0, .inr (2, [.ref r0, .ref r1, .ref r2, .ref r3, .ref r4, .int nc, .int ss, .int ib, .int li, .int ff, .int fp]))]) [0] rfl
        have hDc := hD.sub (ws' := [(h0, .inr (2, [.ref r0, .ref r1, .ref r2, .ref r3, .ref r4, .int nc, .int ss, .int ib, .int li, .int ff, .int fp]))]) [0] (by decide) rfl
        have hFc := va_free (wc := [(h0, .inr (2, [.ref r0, .ref r1, .ref r2, .ref r3, .ref r4, .int nc, .int ss, .int ib, .int li, .int ff, .int fp]))]) hD hS hA [0] rfl
        refine va_callv (va_runV (As := [.int 3, .int y]) (rest := []) ⟨hx, hb, hml, hown, hts⟩ (c_X2_refuse l dC dI cB cC cI cJ H.size h0 r0 r1 r2 r3 r4 nc ss ib li ff fp 3 y ) (cwV 2 hts gX2_endSegment_X2_refuse rfl rfl rfl (by decide +kernel) ⟨(Nat.le_of_ble_eq_true rfl), (Nat.le_of_ble_eq_true rfl)⟩) ⟨cP_blind, va_recv hG.1 hPc (ci := 2) (q0 := 0) rfl rfl, cP_pre hPc hG hDc⟩ rfl rfl hl.1 rfl (lv_room (Nat.le_of_ble_eq_true rfl)) dX2_endSegment_47 ⟨Nat.le_of_ble_eq_true rfl, Nat.le_of_ble_eq_true rfl⟩) hS (fun q _ h => hFc q h) hFc (fun u t H1 locs ht hvm hw hB hz1 hk1 hS => ?_)
        obtain ⟨hP1, hD1⟩ := hB
        rw [ht] at hP1
        generalize hr_4 : fX2_refuse nc ss ib li ff fp 3 y = r_4 at hP1 hD1
        rw [bnd_eq hr_4] at hR
        obtain ⟨hP, hD⟩ := va_join (wr := [(r0, .inr (1, [.int n0, .int n1, .long n2, .int n3, .int n4])), (r1, .inl (cJ, 5, .inr (.inl nb))), (r2, .inr (0, [.int a0, .int a1, .int a2, .int a3, .int a4])), (r3, .inr (3, [.int g0, .int g1, .int g2, .int g3, .int g4, .int g5])), (r4, .inr (4, [.ref q0, .ref q1, .ref q2, .ref q3, .ref q4, .ref q5, .int cn])), (q0, .inl (cI, 300, .inl t0)), (q1, .inl (cI, 300, .inl t1)), (q2, .inl (cI, 300, .inl t2)), (q3, .inl (cI, 300, .inl t3)), (q4, .inl (cI, 300, .inl t4)), (q5, .inl (cI, 300, .inl t5))]) (w1 := [(h0, .inr (2, [.ref r0, .ref r1, .ref r2, .ref r3, .ref r4, .int nc, .int ss, .int ib, .int li, .int r_4.1, .int r_4.2]))]) hP hD [0] [1, 2, 3, 4, 5, 6, 7, 8, 9, 10, 11] rfl rfl (by decide) (by decide) hk1 hFc hP1 hD1
        generalize H1 = H at hP hS ⊢
        have hP := hP.sub (ws' := [(h0, .inr (2, [.ref r0, .ref r1, .ref r2, .ref r3, .ref r4, .int nc, .int ss, .int ib, .int li, .int r_4.1, .int r_4.2])), (r0, .inr (1, [.int n0, .int n1, .long n2, .int n3, .int n4])), (r1, .inl (cJ, 5, .inr (.inl nb))), (r2, .inr (0, [.int a0, .int a1, .int a2, .int a3, .int a4])), (r3, .inr (3, [.int g0, .int g1, .int g2, .int g3, .int g4, .int g5])), (r4, .inr (4, [.ref q0, .ref q1, .ref q2, .ref q3, .ref q4, .ref q5, .int cn])), (q0, .inl (cI, 300, .inl t0)), (q1, .inl (cI, 300, .inl t1)), (q2, .inl (cI, 300, .inl t2)), (q3, .inl (cI, 300, .inl t3)), (q4, .inl (cI, 300, .inl t4)), (q5, .inl (cI, 300, .inl t5))]) [11, 0, 1, 2, 3, 4, 5, 6, 7, 8, 9, 10] rfl
        have hD := hD.sub (ws' := [(h0, .inr (2, [.ref r0, .ref r1, .ref r2, .ref r3, .ref r4, .int nc, .int ss, .int ib, .int li, .int r_4.1, .int r_4.2])), (r0, .inr (1, [.int n0, .int n1, .long n2, .int n3, .int n4])), (r1, .inl (cJ, 5, .inr (.inl nb))), (r2, .inr (0, [.int a0, .int a1, .int a2, .int a3, .int a4])), (r3, .inr (3, [.int g0, .int g1, .int g2, .int g3, .int g4, .int g5])), (r4, .inr (4, [.ref q0, .ref q1, .ref q2, .ref q3, .ref q4, .ref q5, .int cn])), (q0, .inl (cI, 300, .inl t0)), (q1, .inl (cI, 300, .inl t1)), (q2, .inl (cI, 300, .inl t2)), (q3, .inl (cI, 300, .inl t3)), (q4, .inl (cI, 300, .inl t4)), (q5, .inl (cI, 300, .inl t5))]) [11, 0, 1, 2, 3, 4, 5, 6, 7, 8, 9, 10] (by decide) rfl
        refine lv_aload_n hx hb dX2_endSegment_50 rfl (lv_at hl 0 rfl) ?_
        refine lv_iconst (v := 0) hx hb dX2_endSegment_51 (by decide) ?_
        refine va_put (D := (dC, dI)) (ci := 2) (v := .int 0) (ty := .int) (C := RX2) (T := TX2) (N := 11) hx hb hts inc_X2_endSegment_2 tyX2 tyX2_ok nmX2 hown hG.1 hP hD hS 0 rfl rfl 5 (by decide) (hts (.fieldLink RX2 76 "MappingDesk$Reader" "numberCount" "I") (by decide +kernel)) (fun _ h9 => h9) rfl (by decide +kernel) rfl rfl (Nat.le_of_ble_eq_true rfl) dX2_endSegment_52 (fun H locs hP hD hS => ?_)
        have hP : va_P (dC, dI) vwCl [(h0, .inr (2, [.ref r0, .ref r1, .ref r2, .ref r3, .ref r4, .int 0, .int ss, .int ib, .int li, .int r_4.1, .int r_4.2])), (r0, .inr (1, [.int n0, .int n1, .long n2, .int n3, .int n4])), (r1, .inl (cJ, 5, .inr (.inl nb))), (r2, .inr (0, [.int a0, .int a1, .int a2, .int a3, .int a4])), (r3, .inr (3, [.int g0, .int g1, .int g2, .int g3, .int g4, .int g5])), (r4, .inr (4, [.ref q0, .ref q1, .ref q2, .ref q3, .ref q4, .ref q5, .int cn])), (q0, .inl (cI, 300, .inl t0)), (q1, .inl (cI, 300, .inl t1)), (q2, .inl (cI, 300, .inl t2)), (q3, .inl (cI, 300, .inl t3)), (q4, .inl (cI, 300, .inl t4)), (q5, .inl (cI, 300, .inl t5))] H := hP
        have hD : va_D A [(h0, .inr (2, [.ref r0, .ref r1, .ref r2, .ref r3, .ref r4, .int 0, .int ss, .int ib, .int li, .int r_4.1, .int r_4.2])), (r0, .inr (1, [.int n0, .int n1, .long n2, .int n3, .int n4])), (r1, .inl (cJ, 5, .inr (.inl nb))), (r2, .inr (0, [.int a0, .int a1, .int a2, .int a3, .int a4])), (r3, .inr (3, [.int g0, .int g1, .int g2, .int g3, .int g4, .int g5])), (r4, .inr (4, [.ref q0, .ref q1, .ref q2, .ref q3, .ref q4, .ref q5, .int cn])), (q0, .inl (cI, 300, .inl t0)), (q1, .inl (cI, 300, .inl t1)), (q2, .inl (cI, 300, .inl t2)), (q3, .inl (cI, 300, .inl t3)), (q4, .inl (cI, 300, .inl t4)), (q5, .inl (cI, 300, .inl t5))] := hD
        have e_5 : 0 ≤ (cn : Int32).toInt ∧ (cn : Int32).toInt ≤ 300 := by
          have k_6 : (0 : Int32).toInt = 0 := by decide
          have q_7 := i_eq c_1
          have q_8 := i_le c_2
          have q_9 := i_ne c_3
          try generalize Int32.toInt cn = z0 at *
          try generalize Int32.toInt n0 = z1 at *
          try generalize Int32.toInt nc = z2 at *
          try generalize Int32.toInt (0 : Int32) = z3 at *
          try generalize Int32.toInt x = z4 at *
          omega
        have e_10 : (0 : Int32).toInt = 0 := by
          have k_11 : (0 : Int32).toInt = 0 := by decide
          have q_12 := i_eq c_1
          have q_13 := i_le c_2
          have q_14 := i_ne c_3
          try generalize Int32.toInt cn = z0 at *
          try generalize Int32.toInt n0 = z1 at *
          try generalize Int32.toInt nc = z2 at *
          try generalize Int32.toInt (0 : Int32) = z3 at *
          try generalize Int32.toInt x = z4 at *
          omega
        subst hR
        exact W.vret hx hb hr (fun t ht hW => ⟨⟨(), rfl, ⟨e_5, e_10⟩, by rw [ht]; exact hP, hD⟩, hS.F ht⟩) hS.2.2 dX2_endSegment_55
      · rw [if_pos c_3] at hR
        refine lv_aload_n hx hb dX2_endSegment_37 rfl (lv_at hl 0 rfl) ?_
        refine va_get (D := (dC, dI)) (ci := 2) (v := .int ib) (C := RX2) (T := TX2) (N := 11) hx hb hts inc_X2_endSegment_2 hown hG.1 hP 0 rfl rfl 7 (by decide) (hts (.fieldLink RX2 82 "MappingDesk$Reader" "isBehindComma" "Z") (by decide +kernel)) (fun _ h9 => h9) rfl dX2_endSegment_38 ?_
        refine lv_if_eq (tgt := 50) hx hb dX2_endSegment_41 (by decide) (fun c_15 => ?_) (fun c_15 => ?_)
        · rw [if_pos c_15] at hR
          refine lv_aload_n hx hb dX2_endSegment_50 rfl (lv_at hl 0 rfl) ?_
          refine lv_iconst (v := 0) hx hb dX2_endSegment_51 (by decide) ?_
          refine va_put (D := (dC, dI)) (ci := 2) (v := .int 0) (ty := .int) (C := RX2) (T := TX2) (N := 11) hx hb hts inc_X2_endSegment_2 tyX2 tyX2_ok nmX2 hown hG.1 hP hD hS 0 rfl rfl 5 (by decide) (hts (.fieldLink RX2 76 "MappingDesk$Reader" "numberCount" "I") (by decide +kernel)) (fun _ h9 => h9) rfl (by decide +kernel) rfl rfl (Nat.le_of_ble_eq_true rfl) dX2_endSegment_52 (fun H locs hP hD hS => ?_)
          have hP : va_P (dC, dI) vwCl [(h0, .inr (2, [.ref r0, .ref r1, .ref r2, .ref r3, .ref r4, .int 0, .int ss, .int ib, .int li, .int ff, .int fp])), (r0, .inr (1, [.int n0, .int n1, .long n2, .int n3, .int n4])), (r1, .inl (cJ, 5, .inr (.inl nb))), (r2, .inr (0, [.int a0, .int a1, .int a2, .int a3, .int a4])), (r3, .inr (3, [.int g0, .int g1, .int g2, .int g3, .int g4, .int g5])), (r4, .inr (4, [.ref q0, .ref q1, .ref q2, .ref q3, .ref q4, .ref q5, .int cn])), (q0, .inl (cI, 300, .inl t0)), (q1, .inl (cI, 300, .inl t1)), (q2, .inl (cI, 300, .inl t2)), (q3, .inl (cI, 300, .inl t3)), (q4, .inl (cI, 300, .inl t4)), (q5, .inl (cI, 300, .inl t5))] H := hP
          have hD : va_D A [(h0, .inr (2, [.ref r0, .ref r1, .ref r2, .ref r3, .ref r4, .int 0, .int ss, .int ib, .int li, .int ff, .int fp])), (r0, .inr (1, [.int n0, .int n1, .long n2, .int n3, .int n4])), (r1, .inl (cJ, 5, .inr (.inl nb))), (r2, .inr (0, [.int a0, .int a1, .int a2, .int a3, .int a4])), (r3, .inr (3, [.int g0, .int g1, .int g2, .int g3, .int g4, .int g5])), (r4, .inr (4, [.ref q0, .ref q1, .ref q2, .ref q3, .ref q4, .ref q5, .int cn])), (q0, .inl (cI, 300, .inl t0)), (q1, .inl (cI, 300, .inl t1)), (q2, .inl (cI, 300, .inl t2)), (q3, .inl (cI, 300, .inl t3)), (q4, .inl (cI, 300, .inl t4)), (q5, .inl (cI, 300, .inl t5))] := hD
          have e_16 : 0 ≤ (cn : Int32).toInt ∧ (cn : Int32).toInt ≤ 300 := by
            have k_17 : (0 : Int32).toInt = 0 := by decide
            have q_18 := i_eq c_1
            have q_19 := i_le c_2
            have q_20 := i_eq c_3
            have q_21 := i_eq c_15
            try generalize Int32.toInt cn = z0 at *
            try generalize Int32.toInt ib = z1 at *
            try generalize Int32.toInt n0 = z2 at *
            try generalize Int32.toInt nc = z3 at *
            try generalize Int32.toInt (0 : Int32) = z4 at *
            try generalize Int32.toInt x = z5 at *
            omega
          have e_22 : (0 : Int32).toInt = 0 := by
            have k_23 : (0 : Int32).toInt = 0 := by decide
            have q_24 := i_eq c_1
            have q_25 := i_le c_2
            have q_26 := i_eq c_3
            have q_27 := i_eq c_15
            try generalize Int32.toInt cn = z0 at *
            try generalize Int32.toInt ib = z1 at *
            try generalize Int32.toInt n0 = z2 at *
            try generalize Int32.toInt nc = z3 at *
            try generalize Int32.toInt (0 : Int32) = z4 at *
            try generalize Int32.toInt x = z5 at *
            omega
          subst hR
          exact W.vret hx hb hr (fun t ht hW => ⟨⟨(), rfl, ⟨e_16, e_22⟩, by rw [ht]; exact hP, hD⟩, hS.F ht⟩) hS.2.2 dX2_endSegment_55
        · rw [if_neg c_15] at hR
          refine lv_aload_n hx hb dX2_endSegment_44 rfl (lv_at hl 0 rfl) ?_
          refine lv_iconst (v := 3) hx hb dX2_endSegment_45 (by decide) ?_
          refine lv_iload_n hx hb dX2_endSegment_46 rfl (lv_at hl 2 rfl) ?_
          have hPc := hP.sub (ws' := [(h0, .inr (2, [.ref r0, .ref r1, .ref r2, .ref r3, .ref r4, .int nc, .int ss, .int ib, .int li, .int ff, .int fp]))]) [0] rfl
          have hDc := hD.sub (ws' := [(h0, .inr (2, [.ref r0, .ref r1, .ref r2, .ref r3, .ref r4, .int nc, .int ss, .int ib, .int li, .int ff, .int fp]))]) [0] (by decide) rfl
          have hFc := va_free (wc := [(h0, .inr (2, [.ref r0, .ref r1, .ref r2, .ref r3, .ref r4, .int nc, .int ss, .int ib, .int li, .int ff, .int fp]))]) hD hS hA [0] rfl
          refine va_callv (va_runV (As := [.int 3, .int y]) (rest := []) ⟨hx, hb, hml, hown, hts⟩ (c_X2_refuse l dC dI cB cC cI cJ H.size h0 r0 r1 r2 r3 r4 nc ss ib li ff fp 3 y ) (cwV 2 hts gX2_endSegment_X2_refuse rfl rfl rfl (by decide +kernel) ⟨(Nat.le_of_ble_eq_true rfl), (Nat.le_of_ble_eq_true rfl)⟩) ⟨cP_blind, va_recv hG.1 hPc (ci := 2) (q0 := 0) rfl rfl, cP_pre hPc hG hDc⟩ rfl rfl hl.1 rfl (lv_room (Nat.le_of_ble_eq_true rfl)) dX2_endSegment_47 ⟨Nat.le_of_ble_eq_true rfl, Nat.le_of_ble_eq_true rfl⟩) hS (fun q _ h => hFc q h) hFc (fun u t H1 locs ht hvm hw hB hz1 hk1 hS => ?_)
          obtain ⟨hP1, hD1⟩ := hB
          rw [ht] at hP1
          generalize hr_28 : fX2_refuse nc ss ib li ff fp 3 y = r_28 at hP1 hD1
          rw [bnd_eq hr_28] at hR
          obtain ⟨hP, hD⟩ := va_join (wr := [(r0, .inr (1, [.int n0, .int n1, .long n2, .int n3, .int n4])), (r1, .inl (cJ, 5, .inr (.inl nb))), (r2, .inr (0, [.int a0, .int a1, .int a2, .int a3, .int a4])), (r3, .inr (3, [.int g0, .int g1, .int g2, .int g3, .int g4, .int g5])), (r4, .inr (4, [.ref q0, .ref q1, .ref q2, .ref q3, .ref q4, .ref q5, .int cn])), (q0, .inl (cI, 300, .inl t0)), (q1, .inl (cI, 300, .inl t1)), (q2, .inl (cI, 300, .inl t2)), (q3, .inl (cI, 300, .inl t3)), (q4, .inl (cI, 300, .inl t4)), (q5, .inl (cI, 300, .inl t5))]) (w1 := [(h0, .inr (2, [.ref r0, .ref r1, .ref r2, .ref r3, .ref r4, .int nc, .int ss, .int ib, .int li, .int r_28.1, .int r_28.2]))]) hP hD [0] [1, 2, 3, 4, 5, 6, 7, 8, 9, 10, 11] rfl rfl (by decide) (by decide) hk1 hFc hP1 hD1
          generalize H1 = H at hP hS ⊢
          have hP := hP.sub (ws' := [(h0, .inr (2, [.ref r0, .ref r1, .ref r2, .ref r3, .ref r4, .int nc, .int ss, .int ib, .int li, .int r_28.1, .int r_28.2])), (r0, .inr (1, [.int n0, .int n1, .long n2, .int n3, .int n4])), (r1, .inl (cJ, 5, .inr (.inl nb))), (r2, .inr (0, [.int a0, .int a1, .int a2, .int a3, .int a4])), (r3, .inr (3, [.int g0, .int g1, .int g2, .int g3, .int g4, .int g5])), (r4, .inr (4, [.ref q0, .ref q1, .ref q2, .ref q3, .ref q4, .ref q5, .int cn])), (q0, .inl (cI, 300, .inl t0)), (q1, .inl (cI, 300, .inl t1)), (q2, .inl (cI, 300, .inl t2)), (q3, .inl (cI, 300, .inl t3)), (q4, .inl (cI, 300, .inl t4)), (q5, .inl (cI, 300, .inl t5))]) [11, 0, 1, 2, 3, 4, 5, 6, 7, 8, 9, 10] rfl
          have hD := hD.sub (ws' := [(h0, .inr (2, [.ref r0, .ref r1, .ref r2, .ref r3, .ref r4, .int nc, .int ss, .int ib, .int li, .int r_28.1, .int r_28.2])), (r0, .inr (1, [.int n0, .int n1, .long n2, .int n3, .int n4])), (r1, .inl (cJ, 5, .inr (.inl nb))), (r2, .inr (0, [.int a0, .int a1, .int a2, .int a3, .int a4])), (r3, .inr (3, [.int g0, .int g1, .int g2, .int g3, .int g4, .int g5])), (r4, .inr (4, [.ref q0, .ref q1, .ref q2, .ref q3, .ref q4, .ref q5, .int cn])), (q0, .inl (cI, 300, .inl t0)), (q1, .inl (cI, 300, .inl t1)), (q2, .inl (cI, 300, .inl t2)), (q3, .inl (cI, 300, .inl t3)), (q4, .inl (cI, 300, .inl t4)), (q5, .inl (cI, 300, .inl t5))]) [11, 0, 1, 2, 3, 4, 5, 6, 7, 8, 9, 10] (by decide) rfl
          refine lv_aload_n hx hb dX2_endSegment_50 rfl (lv_at hl 0 rfl) ?_
          refine lv_iconst (v := 0) hx hb dX2_endSegment_51 (by decide) ?_
          refine va_put (D := (dC, dI)) (ci := 2) (v := .int 0) (ty := .int) (C := RX2) (T := TX2) (N := 11) hx hb hts inc_X2_endSegment_2 tyX2 tyX2_ok nmX2 hown hG.1 hP hD hS 0 rfl rfl 5 (by decide) (hts (.fieldLink RX2 76 "MappingDesk$Reader" "numberCount" "I") (by decide +kernel)) (fun _ h9 => h9) rfl (by decide +kernel) rfl rfl (Nat.le_of_ble_eq_true rfl) dX2_endSegment_52 (fun H locs hP hD hS => ?_)
          have hP : va_P (dC, dI) vwCl [(h0, .inr (2, [.ref r0, .ref r1, .ref r2, .ref r3, .ref r4, .int 0, .int ss, .int ib, .int li, .int r_28.1, .int r_28.2])), (r0, .inr (1, [.int n0, .int n1, .long n2, .int n3, .int n4])), (r1, .inl (cJ, 5, .inr (.inl nb))), (r2, .inr (0, [.int a0, .int a1, .int a2, .int a3, .int a4])), (r3, .inr (3, [.int g0, .int g1, .int g2, .int g3, .int g4, .int g5])), (r4, .inr (4, [.ref q0, .ref q1, .ref q2, .ref q3, .ref q4, .ref q5, .int cn])), (q0, .inl (cI, 300, .inl t0)), (q1, .inl (cI, 300, .inl t1)), (q2, .inl (cI, 300, .inl t2)), (q3, .inl (cI, 300, .inl t3)), (q4, .inl (cI, 300, .inl t4)), (q5, .inl (cI, 300, .inl t5))] H := hP
          have hD : va_D A [(h0, .inr (2, [.ref r0, .ref r1, .ref r2, .ref r3, .ref r4, .int 0, .int ss, .int ib, .int li, .int r_28.1, .int r_28.2])), (r0, .inr (1, [.int n0, .int n1, .long n2, .int n3, .int n4])), (r1, .inl (cJ, 5, .inr (.inl nb))), (r2, .inr (0, [.int a0, .int a1, .int a2, .int a3, .int a4])), (r3, .inr (3, [.int g0, .int g1, .int g2, .int g3, .int g4, .int g5])), (r4, .inr (4, [.ref q0, .ref q1, .ref q2, .ref q3, .ref q4, .ref q5, .int cn])), (q0, .inl (cI, 300, .inl t0)), (q1, .inl (cI, 300, .inl t1)), (q2, .inl (cI, 300, .inl t2)), (q3, .inl (cI, 300, .inl t3)), (q4, .inl (cI, 300, .inl t4)), (q5, .inl (cI, 300, .inl t5))] := hD
          have e_29 : 0 ≤ (cn : Int32).toInt ∧ (cn : Int32).toInt ≤ 300 := by
            have k_30 : (0 : Int32).toInt = 0 := by decide
            have q_31 := i_eq c_1
            have q_32 := i_le c_2
            have q_33 := i_eq c_3
            have q_34 := i_ne c_15
            try generalize Int32.toInt cn = z0 at *
            try generalize Int32.toInt ib = z1 at *
            try generalize Int32.toInt n0 = z2 at *
            try generalize Int32.toInt nc = z3 at *
            try generalize Int32.toInt (0 : Int32) = z4 at *
            try generalize Int32.toInt x = z5 at *
            omega
          have e_35 : (0 : Int32).toInt = 0 := by
            have k_36 : (0 : Int32).toInt = 0 := by decide
            have q_37 := i_eq c_1
            have q_38 := i_le c_2
            have q_39 := i_eq c_3
            have q_40 := i_ne c_15
            try generalize Int32.toInt cn = z0 at *
            try generalize Int32.toInt ib = z1 at *
            try generalize Int32.toInt n0 = z2 at *
            try generalize Int32.toInt nc = z3 at *
            try generalize Int32.toInt (0 : Int32) = z4 at *
            try generalize Int32.toInt x = z5 at *
            omega
          subst hR
          exact W.vret hx hb hr (fun t ht hW => ⟨⟨(), rfl, ⟨e_29, e_35⟩, by rw [ht]; exact hP, hD⟩, hS.F ht⟩) hS.2.2 dX2_endSegment_55
    · rw [if_neg c_2] at hR
      refine lv_aload_n hx hb dX2_endSegment_26 rfl (lv_at hl 0 rfl) ?_
      have p_41 : 0 ≤ cn.toInt := by
        first | exact hn0 | assumption
      have p_42 : cn.toInt ≤ 300 := by
        first | exact hn1 | assumption
      have hPc := hP.sub (ws' := [(h0, .inr (2, [.ref r0, .ref r1, .ref r2, .ref r3, .ref r4, .int nc, .int ss, .int ib, .int li, .int ff, .int fp])), (r1, .inl (cJ, 5, .inr (.inl nb))), (r2, .inr (0, [.int a0, .int a1, .int a2, .int a3, .int a4])), (r3, .inr (3, [.int g0, .int g1, .int g2, .int g3, .int g4, .int g5])), (r4, .inr (4, [.ref q0, .ref q1, .ref q2, .ref q3, .ref q4, .ref q5, .int cn])), (q0, .inl (cI, 300, .inl t0)), (q1, .inl (cI, 300, .inl t1)), (q2, .inl (cI, 300, .inl t2)), (q3, .inl (cI, 300, .inl t3)), (q4, .inl (cI, 300, .inl t4)), (q5, .inl (cI, 300, .inl t5))]) [0, 2, 3, 4, 5, 6, 7, 8, 9, 10, 11] rfl
      have hDc := hD.sub (ws' := [(h0, .inr (2, [.ref r0, .ref r1, .ref r2, .ref r3, .ref r4, .int nc, .int ss, .int ib, .int li, .int ff, .int fp])), (r1, .inl (cJ, 5, .inr (.inl nb))), (r2, .inr (0, [.int a0, .int a1, .int a2, .int a3, .int a4])), (r3, .inr (3, [.int g0, .int g1, .int g2, .int g3, .int g4, .int g5])), (r4, .inr (4, [.ref q0, .ref q1, .ref q2, .ref q3, .ref q4, .ref q5, .int cn])), (q0, .inl (cI, 300, .inl t0)), (q1, .inl (cI, 300, .inl t1)), (q2, .inl (cI, 300, .inl t2)), (q3, .inl (cI, 300, .inl t3)), (q4, .inl (cI, 300, .inl t4)), (q5, .inl (cI, 300, .inl t5))]) [0, 2, 3, 4, 5, 6, 7, 8, 9, 10, 11] (by decide) rfl
      have hFc := va_free (wc := [(h0, .inr (2, [.ref r0, .ref r1, .ref r2, .ref r3, .ref r4, .int nc, .int ss, .int ib, .int li, .int ff, .int fp])), (r1, .inl (cJ, 5, .inr (.inl nb))), (r2, .inr (0, [.int a0, .int a1, .int a2, .int a3, .int a4])), (r3, .inr (3, [.int g0, .int g1, .int g2, .int g3, .int g4, .int g5])), (r4, .inr (4, [.ref q0, .ref q1, .ref q2, .ref q3, .ref q4, .ref q5, .int cn])), (q0, .inl (cI, 300, .inl t0)), (q1, .inl (cI, 300, .inl t1)), (q2, .inl (cI, 300, .inl t2)), (q3, .inl (cI, 300, .inl t3)), (q4, .inl (cI, 300, .inl t4)), (q5, .inl (cI, 300, .inl t5))]) hD hS hA [0, 2, 3, 4, 5, 6, 7, 8, 9, 10, 11] rfl
      refine va_callv (va_runV (As := []) (rest := []) ⟨hx, hb, hml, hown, hts⟩ (c_X2_addSegment l dC dI cB cC cI cJ H.size h0 r0 r1 r2 r3 r4 q0 q1 q2 q3 q4 q5 nc ss ib li ff fp nb a0 a1 a2 a3 a4 g0 g1 g2 g3 g4 g5 cn t0 t1 t2 t3 t4 t5 p_41 p_42) (cwV 0 hts gX2_endSegment_X2_addSegment rfl rfl rfl (by decide +kernel) ⟨(Nat.le_of_ble_eq_true rfl), (Nat.le_of_ble_eq_true rfl)⟩) ⟨cP_blind, va_recv hG.1 hPc (ci := 2) (q0 := 0) rfl rfl, cP_pre hPc hG hDc⟩ rfl rfl hl.1 rfl (lv_room (Nat.le_of_ble_eq_true rfl)) dX2_endSegment_27 ⟨Nat.le_of_ble_eq_true rfl, Nat.le_of_ble_eq_true rfl⟩) hS (fun q _ h => hFc q h) hFc (fun u t H1 locs ht hvm hw hB hz1 hk1 hS => ?_)
      obtain ⟨hP1, hD1⟩ := hB
      rw [ht] at hP1
      generalize hr_43 : fX2_addSegment nc ss ib li ff fp nb a0 a1 a2 a3 a4 g0 g1 g2 g3 g4 g5 cn t0 t1 t2 t3 t4 t5 = r_43 at hP1 hD1 hw
      have er_43_0 := hw
      rw [bnd_eq hr_43] at hR
      obtain ⟨hP, hD⟩ := va_join (wr := [(r0, .inr (1, [.int n0, .int n1, .long n2, .int n3, .int n4]))]) (w1 := [(h0, .inr (2, [.ref r0, .ref r1, .ref r2, .ref r3, .ref r4, .int nc, .int ss, .int ib, .int li, .int r_43.1, .int r_43.2.1])), (r1, .inl (cJ, 5, .inr (.inl nb))), (r2, .inr (0, [.int r_43.2.2.1, .int r_43.2.2.2.1, .int r_43.2.2.2.2.1, .int r_43.2.2.2.2.2.1, .int r_43.2.2.2.2.2.2.1])), (r3, .inr (3, [.int r_43.2.2.2.2.2.2.2.1, .int r_43.2.2.2.2.2.2.2.2.1, .int r_43.2.2.2.2.2.2.2.2.2.1, .int r_43.2.2.2.2.2.2.2.2.2.2.1, .int r_43.2.2.2.2.2.2.2.2.2.2.2.1, .int r_43.2.2.2.2.2.2.2.2.2.2.2.2.1])), (r4, .inr (4, [.ref q0, .ref q1, .ref q2, .ref q3, .ref q4, .ref q5, .int r_43.2.2.2.2.2.2.2.2.2.2.2.2.2.1])), (q0, .inl (cI, 300, .inl r_43.2.2.2.2.2.2.2.2.2.2.2.2.2.2.1)), (q1, .inl (cI, 300, .inl r_43.2.2.2.2.2.2.2.2.2.2.2.2.2.2.2.1)), (q2, .inl (cI, 300, .inl r_43.2.2.2.2.2.2.2.2.2.2.2.2.2.2.2.2.1)), (q3, .inl (cI, 300, .inl r_43.2.2.2.2.2.2.2.2.2.2.2.2.2.2.2.2.2.1)), (q4, .inl (cI, 300, .inl r_43.2.2.2.2.2.2.2.2.2.2.2.2.2.2.2.2.2.2.1)), (q5, .inl (cI, 300, .inl r_43.2.2.2.2.2.2.2.2.2.2.2.2.2.2.2.2.2.2.2))]) hP hD [0, 2, 3, 4, 5, 6, 7, 8, 9, 10, 11] [1] rfl rfl (by decide) (by decide) hk1 hFc hP1 hD1
      generalize H1 = H at hP hS ⊢
      have hP := hP.sub (ws' := [(h0, .inr (2, [.ref r0, .ref r1, .ref r2, .ref r3, .ref r4, .int nc, .int ss, .int ib, .int li, .int r_43.1, .int r_43.2.1])), (r0, .inr (1, [.int n0, .int n1, .long n2, .int n3, .int n4])), (r1, .inl (cJ, 5, .inr (.inl nb))), (r2, .inr (0, [.int r_43.2.2.1, .int r_43.2.2.2.1, .int r_43.2.2.2.2.1, .int r_43.2.2.2.2.2.1, .int r_43.2.2.2.2.2.2.1])), (r3, .inr (3, [.int r_43.2.2.2.2.2.2.2.1, .int r_43.2.2.2.2.2.2.2.2.1, .int r_43.2.2.2.2.2.2.2.2.2.1, .int r_43.2.2.2.2.2.2.2.2.2.2.1, .int r_43.2.2.2.2.2.2.2.2.2.2.2.1, .int r_43.2.2.2.2.2.2.2.2.2.2.2.2.1])), (r4, .inr (4, [.ref q0, .ref q1, .ref q2, .ref q3, .ref q4, .ref q5, .int r_43.2.2.2.2.2.2.2.2.2.2.2.2.2.1])), (q0, .inl (cI, 300, .inl r_43.2.2.2.2.2.2.2.2.2.2.2.2.2.2.1)), (q1, .inl (cI, 300, .inl r_43.2.2.2.2.2.2.2.2.2.2.2.2.2.2.2.1)), (q2, .inl (cI, 300, .inl r_43.2.2.2.2.2.2.2.2.2.2.2.2.2.2.2.2.1)), (q3, .inl (cI, 300, .inl r_43.2.2.2.2.2.2.2.2.2.2.2.2.2.2.2.2.2.1)), (q4, .inl (cI, 300, .inl r_43.2.2.2.2.2.2.2.2.2.2.2.2.2.2.2.2.2.2.1)), (q5, .inl (cI, 300, .inl r_43.2.2.2.2.2.2.2.2.2.2.2.2.2.2.2.2.2.2.2))]) [1, 0, 2, 3, 4, 5, 6, 7, 8, 9, 10, 11] rfl
      have hD := hD.sub (ws' := [(h0, .inr (2, [.ref r0, .ref r1, .ref r2, .ref r3, .ref r4, .int nc, .int ss, .int ib, .int li, .int r_43.1, .int r_43.2.1])), (r0, .inr (1, [.int n0, .int n1, .long n2, .int n3, .int n4])), (r1, .inl (cJ, 5, .inr (.inl nb))), (r2, .inr (0, [.int r_43.2.2.1, .int r_43.2.2.2.1, .int r_43.2.2.2.2.1, .int r_43.2.2.2.2.2.1, .int r_43.2.2.2.2.2.2.1])), (r3, .inr (3, [.int r_43.2.2.2.2.2.2.2.1, .int r_43.2.2.2.2.2.2.2.2.1, .int r_43.2.2.2.2.2.2.2.2.2.1, .int r_43.2.2.2.2.2.2.2.2.2.2.1, .int r_43.2.2.2.2.2.2.2.2.2.2.2.1, .int r_43.2.2.2.2.2.2.2.2.2.2.2.2.1])), (r4, .inr (4, [.ref q0, .ref q1, .ref q2, .ref q3, .ref q4, .ref q5, .int r_43.2.2.2.2.2.2.2.2.2.2.2.2.2.1])), (q0, .inl (cI, 300, .inl r_43.2.2.2.2.2.2.2.2.2.2.2.2.2.2.1)), (q1, .inl (cI, 300, .inl r_43.2.2.2.2.2.2.2.2.2.2.2.2.2.2.2.1)), (q2, .inl (cI, 300, .inl r_43.2.2.2.2.2.2.2.2.2.2.2.2.2.2.2.2.1)), (q3, .inl (cI, 300, .inl r_43.2.2.2.2.2.2.2.2.2.2.2.2.2.2.2.2.2.1)), (q4, .inl (cI, 300, .inl r_43.2.2.2.2.2.2.2.2.2.2.2.2.2.2.2.2.2.2.1)), (q5, .inl (cI, 300, .inl r_43.2.2.2.2.2.2.2.2.2.2.2.2.2.2.2.2.2.2.2))]) [1, 0, 2, 3, 4, 5, 6, 7, 8, 9, 10, 11] (by decide) rfl
      refine lv_goto (tgt := 50) hx hb dX2_endSegment_30 (by decide) ?_
      refine lv_aload_n hx hb dX2_endSegment_50 rfl (lv_at hl 0 rfl) ?_
      refine lv_iconst (v := 0) hx hb dX2_endSegment_51 (by decide) ?_
      refine va_put (D := (dC, dI)) (ci := 2) (v := .int 0) (ty := .int) (C := RX2) (T := TX2) (N := 11) hx hb hts inc_X2_endSegment_2 tyX2 tyX2_ok nmX2 hown hG.1 hP hD hS 0 rfl rfl 5 (by decide) (hts (.fieldLink RX2 76 "MappingDesk$Reader" "numberCount" "I") (by decide +kernel)) (fun _ h9 => h9) rfl (by decide +kernel) rfl rfl (Nat.le_of_ble_eq_true rfl) dX2_endSegment_52 (fun H locs hP hD hS => ?_)
      have hP : va_P (dC, dI) vwCl [(h0, .inr (2, [.ref r0, .ref r1, .ref r2, .ref r3, .ref r4, .int 0, .int ss, .int ib, .int li, .int r_43.1, .int r_43.2.1])), (r0, .inr (1, [.int n0, .int n1, .long n2, .int n3, .int n4])), (r1, .inl (cJ, 5, .inr (.inl nb))), (r2, .inr (0, [.int r_43.2.2.1, .int r_43.2.2.2.1, .int r_43.2.2.2.2.1, .int r_43.2.2.2.2.2.1, .int r_43.2.2.2.2.2.2.1])), (r3, .inr (3, [.int r_43.2.2.2.2.2.2.2.1, .int r_43.2.2.2.2.2.2.2.2.1, .int r_43.2.2.2.2.2.2.2.2.2.1, .int r_43.2.2.2.2.2.2.2.2.2.2.1, .int r_43.2.2.2.2.2.2.2.2.2.2.2.1, .int r_43.2.2.2.2.2.2.2.2.2.2.2.2.1])), (r4, .inr (4, [.ref q0, .ref q1, .ref q2, .ref q3, .ref q4, .ref q5, .int r_43.2.2.2.2.2.2.2.2.2.2.2.2.2.1])), (q0, .inl (cI, 300, .inl r_43.2.2.2.2.2.2.2.2.2.2.2.2.2.2.1)), (q1, .inl (cI, 300, .inl r_43.2.2.2.2.2.2.2.2.2.2.2.2.2.2.2.1)), (q2, .inl (cI, 300, .inl r_43.2.2.2.2.2.2.2.2.2.2.2.2.2.2.2.2.1)), (q3, .inl (cI, 300, .inl r_43.2.2.2.2.2.2.2.2.2.2.2.2.2.2.2.2.2.1)), (q4, .inl (cI, 300, .inl r_43.2.2.2.2.2.2.2.2.2.2.2.2.2.2.2.2.2.2.1)), (q5, .inl (cI, 300, .inl r_43.2.2.2.2.2.2.2.2.2.2.2.2.2.2.2.2.2.2.2))] H := hP
      have hD : va_D A [(h0, .inr (2, [.ref r0, .ref r1, .ref r2, .ref r3, .ref r4, .int 0, .int ss, .int ib, .int li, .int r_43.1, .int r_43.2.1])), (r0, .inr (1, [.int n0, .int n1, .long n2, .int n3, .int n4])), (r1, .inl (cJ, 5, .inr (.inl nb))), (r2, .inr (0, [.int r_43.2.2.1, .int r_43.2.2.2.1, .int r_43.2.2.2.2.1, .int r_43.2.2.2.2.2.1, .int r_43.2.2.2.2.2.2.1])), (r3, .inr (3, [.int r_43.2.2.2.2.2.2.2.1, .int r_43.2.2.2.2.2.2.2.2.1, .int r_43.2.2.2.2.2.2.2.2.2.1, .int r_43.2.2.2.2.2.2.2.2.2.2.1, .int r_43.2.2.2.2.2.2.2.2.2.2.2.1, .int r_43.2.2.2.2.2.2.2.2.2.2.2.2.1])), (r4, .inr (4, [.ref q0, .ref q1, .ref q2, .ref q3, .ref q4, .ref q5, .int r_43.2.2.2.2.2.2.2.2.2.2.2.2.2.1])), (q0, .inl (cI, 300, .inl r_43.2.2.2.2.2.2.2.2.2.2.2.2.2.2.1)), (q1, .inl (cI, 300, .inl r_43.2.2.2.2.2.2.2.2.2.2.2.2.2.2.2.1)), (q2, .inl (cI, 300, .inl r_43.2.2.2.2.2.2.2.2.2.2.2.2.2.2.2.2.1)), (q3, .inl (cI, 300, .inl r_43.2.2.2.2.2.2.2.2.2.2.2.2.2.2.2.2.2.1)), (q4, .inl (cI, 300, .inl r_43.2.2.2.2.2.2.2.2.2.2.2.2.2.2.2.2.2.2.1)), (q5, .inl (cI, 300, .inl r_43.2.2.2.2.2.2.2.2.2.2.2.2.2.2.2.2.2.2.2))] := hD
      have e_44 : 0 ≤ (r_43.2.2.2.2.2.2.2.2.2.2.2.2.2.1 : Int32).toInt ∧ (r_43.2.2.2.2.2.2.2.2.2.2.2.2.2.1 : Int32).toInt ≤ 300 := by
        have k_45 : (0 : Int32).toInt = 0 := by decide
        have q_46 := i_eq c_1
        have q_47 := i_nle c_2
        try generalize Int32.toInt r_43.2.2.2.2.2.2.2.2.2.2.2.2.2.1 = z0 at *
        try generalize Int32.toInt cn = z1 at *
        try generalize Int32.toInt n0 = z2 at *
        try generalize Int32.toInt nc = z3 at *
        try generalize Int32.toInt (0 : Int32) = z4 at *
        omega
      have e_48 : (0 : Int32).toInt = 0 := by
        have k_49 : (0 : Int32).toInt = 0 := by decide
        have q_50 := i_eq c_1
        have q_51 := i_nle c_2
        try generalize Int32.toInt r_43.2.2.2.2.2.2.2.2.2.2.2.2.2.1 = z0 at *
        try generalize Int32.toInt cn = z1 at *
        try generalize Int32.toInt n0 = z2 at *
        try generalize Int32.toInt nc = z3 at *
        try generalize Int32.toInt (0 : Int32) = z4 at *
        omega
      subst hR
      exact W.vret hx hb hr (fun t ht hW => ⟨⟨(), rfl, ⟨e_44, e_48⟩, by rw [ht]; exact hP, hD⟩, hS.F ht⟩) hS.2.2 dX2_endSegment_55
  · rw [if_neg c_1] at hR
    refine lv_aload_n hx hb dX2_endSegment_10 rfl (lv_at hl 0 rfl) ?_
    refine lv_iconst (v := 2) hx hb dX2_endSegment_11 (by decide) ?_
    refine lv_iload_n hx hb dX2_endSegment_12 rfl (lv_at hl 2 rfl) ?_
    have hPc := hP.sub (ws' := [(h0, .inr (2, [.ref r0, .ref r1, .ref r2, .ref r3, .ref r4, .int nc, .int ss, .int ib, .int li, .int ff, .int fp]))]) [0] rfl
    have hDc := hD.sub (ws' := [(h0, .inr (2, [.ref r0, .ref r1, .ref r2, .ref r3, .ref r4, .int nc, .int ss, .int ib, .int li, .int ff, .int fp]))]) [0] (by decide) rfl
    have hFc := va_free (wc := [(h0, .inr (2, [.ref r0, .ref r1, .ref r2, .ref r3, .ref r4, .int nc, .int ss, .int ib, .int li, .int ff, .int fp]))]) hD hS hA [0] rfl
    refine va_callv (va_runV (As := [.int 2, .int y]) (rest := []) ⟨hx, hb, hml, hown, hts⟩ (c_X2_refuse l dC dI cB cC cI cJ H.size h0 r0 r1 r2 r3 r4 nc ss ib li ff fp 2 y ) (cwV 2 hts gX2_endSegment_X2_refuse rfl rfl rfl (by decide +kernel) ⟨(Nat.le_of_ble_eq_true rfl), (Nat.le_of_ble_eq_true rfl)⟩) ⟨cP_blind, va_recv hG.1 hPc (ci := 2) (q0 := 0) rfl rfl, cP_pre hPc hG hDc⟩ rfl rfl hl.1 rfl (lv_room (Nat.le_of_ble_eq_true rfl)) dX2_endSegment_13 ⟨Nat.le_of_ble_eq_true rfl, Nat.le_of_ble_eq_true rfl⟩) hS (fun q _ h => hFc q h) hFc (fun u t H1 locs ht hvm hw hB hz1 hk1 hS => ?_)
    obtain ⟨hP1, hD1⟩ := hB
    rw [ht] at hP1
    generalize hr_52 : fX2_refuse nc ss ib li ff fp 2 y = r_52 at hP1 hD1
    rw [bnd_eq hr_52] at hR
    obtain ⟨hP, hD⟩ := va_join (wr := [(r0, .inr (1, [.int n0, .int n1, .long n2, .int n3, .int n4])), (r1, .inl (cJ, 5, .inr (.inl nb))), (r2, .inr (0, [.int a0, .int a1, .int a2, .int a3, .int a4])), (r3, .inr (3, [.int g0, .int g1, .int g2, .int g3, .int g4, .int g5])), (r4, .inr (4, [.ref q0, .ref q1, .ref q2, .ref q3, .ref q4, .ref q5, .int cn])), (q0, .inl (cI, 300, .inl t0)), (q1, .inl (cI, 300, .inl t1)), (q2, .inl (cI, 300, .inl t2)), (q3, .inl (cI, 300, .inl t3)), (q4, .inl (cI, 300, .inl t4)), (q5, .inl (cI, 300, .inl t5))]) (w1 := [(h0, .inr (2, [.ref r0, .ref r1, .ref r2, .ref r3, .ref r4, .int nc, .int ss, .int ib, .int li, .int r_52.1, .int r_52.2]))]) hP hD [0] [1, 2, 3, 4, 5, 6, 7, 8, 9, 10, 11] rfl rfl (by decide) (by decide) hk1 hFc hP1 hD1
    generalize H1 = H at hP hS ⊢
    have hP := hP.sub (ws' := [(h0, .inr (2, [.ref r0, .ref r1, .ref r2, .ref r3, .ref r4, .int nc, .int ss, .int ib, .int li, .int r_52.1, .int r_52.2])), (r0, .inr (1, [.int n0, .int n1, .long n2, .int n3, .int n4])), (r1, .inl (cJ, 5, .inr (.inl nb))), (r2, .inr (0, [.int a0, .int a1, .int a2, .int a3, .int a4])), (r3, .inr (3, [.int g0, .int g1, .int g2, .int g3, .int g4, .int g5])), (r4, .inr (4, [.ref q0, .ref q1, .ref q2, .ref q3, .ref q4, .ref q5, .int cn])), (q0, .inl (cI, 300, .inl t0)), (q1, .inl (cI, 300, .inl t1)), (q2, .inl (cI, 300, .inl t2)), (q3, .inl (cI, 300, .inl t3)), (q4, .inl (cI, 300, .inl t4)), (q5, .inl (cI, 300, .inl t5))]) [11, 0, 1, 2, 3, 4, 5, 6, 7, 8, 9, 10] rfl
    have hD := hD.sub (ws' := [(h0, .inr (2, [.ref r0, .ref r1, .ref r2, .ref r3, .ref r4, .int nc, .int ss, .int ib, .int li, .int r_52.1, .int r_52.2])), (r0, .inr (1, [.int n0, .int n1, .long n2, .int n3, .int n4])), (r1, .inl (cJ, 5, .inr (.inl nb))), (r2, .inr (0, [.int a0, .int a1, .int a2, .int a3, .int a4])), (r3, .inr (3, [.int g0, .int g1, .int g2, .int g3, .int g4, .int g5])), (r4, .inr (4, [.ref q0, .ref q1, .ref q2, .ref q3, .ref q4, .ref q5, .int cn])), (q0, .inl (cI, 300, .inl t0)), (q1, .inl (cI, 300, .inl t1)), (q2, .inl (cI, 300, .inl t2)), (q3, .inl (cI, 300, .inl t3)), (q4, .inl (cI, 300, .inl t4)), (q5, .inl (cI, 300, .inl t5))]) [11, 0, 1, 2, 3, 4, 5, 6, 7, 8, 9, 10] (by decide) rfl
    refine lv_goto (tgt := 50) hx hb dX2_endSegment_16 (by decide) ?_
    refine lv_aload_n hx hb dX2_endSegment_50 rfl (lv_at hl 0 rfl) ?_
    refine lv_iconst (v := 0) hx hb dX2_endSegment_51 (by decide) ?_
    refine va_put (D := (dC, dI)) (ci := 2) (v := .int 0) (ty := .int) (C := RX2) (T := TX2) (N := 11) hx hb hts inc_X2_endSegment_2 tyX2 tyX2_ok nmX2 hown hG.1 hP hD hS 0 rfl rfl 5 (by decide) (hts (.fieldLink RX2 76 "MappingDesk$Reader" "numberCount" "I") (by decide +kernel)) (fun _ h9 => h9) rfl (by decide +kernel) rfl rfl (Nat.le_of_ble_eq_true rfl) dX2_endSegment_52 (fun H locs hP hD hS => ?_)
    have hP : va_P (dC, dI) vwCl [(h0, .inr (2, [.ref r0, .ref r1, .ref r2, .ref r3, .ref r4, .int 0, .int ss, .int ib, .int li, .int r_52.1, .int r_52.2])), (r0, .inr (1, [.int n0, .int n1, .long n2, .int n3, .int n4])), (r1, .inl (cJ, 5, .inr (.inl nb))), (r2, .inr (0, [.int a0, .int a1, .int a2, .int a3, .int a4])), (r3, .inr (3, [.int g0, .int g1, .int g2, .int g3, .int g4, .int g5])), (r4, .inr (4, [.ref q0, .ref q1, .ref q2, .ref q3, .ref q4, .ref q5, .int cn])), (q0, .inl (cI, 300, .inl t0)), (q1, .inl (cI, 300, .inl t1)), (q2, .inl (cI, 300, .inl t2)), (q3, .inl (cI, 300, .inl t3)), (q4, .inl (cI, 300, .inl t4)), (q5, .inl (cI, 300, .inl t5))] H := hP
    have hD : va_D A [(h0, .inr (2, [.ref r0, .ref r1, .ref r2, .ref r3, .ref r4, .int 0, .int ss, .int ib, .int li, .int r_52.1, .int r_52.2])), (r0, .inr (1, [.int n0, .int n1, .long n2, .int n3, .int n4])), (r1, .inl (cJ, 5, .inr (.inl nb))), (r2, .inr (0, [.int a0, .int a1, .int a2, .int a3, .int a4])), (r3, .inr (3, [.int g0, .int g1, .int g2, .int g3, .int g4, .int g5])), (r4, .inr (4, [.ref q0, .ref q1, .ref q2, .ref q3, .ref q4, .ref q5, .int cn])), (q0, .inl (cI, 300, .inl t0)), (q1, .inl (cI, 300, .inl t1)), (q2, .inl (cI, 300, .inl t2)), (q3, .inl (cI, 300, .inl t3)), (q4, .inl (cI, 300, .inl t4)), (q5, .inl (cI, 300, .inl t5))] := hD
    have e_53 : 0 ≤ (cn : Int32).toInt ∧ (cn : Int32).toInt ≤ 300 := by
      have k_54 : (0 : Int32).toInt = 0 := by decide
      have q_55 := i_ne c_1
      try generalize Int32.toInt cn = z0 at *
      try generalize Int32.toInt n0 = z1 at *
      try generalize Int32.toInt (0 : Int32) = z2 at *
      omega
    have e_56 : (0 : Int32).toInt = 0 := by
      have k_57 : (0 : Int32).toInt = 0 := by decide
      have q_58 := i_ne c_1
      try generalize Int32.toInt cn = z0 at *
      try generalize Int32.toInt n0 = z1 at *
      try generalize Int32.toInt (0 : Int32) = z2 at *
      omega
    subst hR
    exact W.vret hx hb hr (fun t ht hW => ⟨⟨(), rfl, ⟨e_53, e_56⟩, by rw [ht]; exact hP, hD⟩, hS.F ht⟩) hS.2.2 dX2_endSegment_55
