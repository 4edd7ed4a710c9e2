def fX8_feed (lf : Int32) (bt : Nat → Int32) (ln wa wb wc wd we : Int32) : Int32 × Int32 × (Nat → Int32) :=
  bnd (fX5_hasRoomForFive bt ln) fun r_1 =>
  if r_1 = 0 then
    (0, ln, bt)
  else
    bnd (fX5_appendFour bt ln wa) fun r_5 =>
    bnd (fX5_appendFour r_5.2 r_5.1 wb) fun r_12 =>
    bnd (fX5_appendFour r_12.2 r_12.1 wc) fun r_19 =>
    bnd (fX5_appendFour r_19.2 r_19.1 wd) fun r_26 =>
    bnd (fX5_appendFour r_26.2 r_26.1 we) fun r_33 =>
    (1, r_33.1, r_33.2)
theorem inc_X8_feed_8 : ∀ w ∈ u_ws RX8 TX8 8, w ∈ wsX8_feed := by decide +kernel
set_option maxHeartbeats 4000000 in
set_option maxRecDepth 100000 in
theorem c_X8_feed (l : Launch) (dC : Nat → ClassId) (dI : Nat → Nat → Nat) (cB cC cI cJ : ClassId) (sz : Nat) (h0 d0 d1 d2 d3 d4 d5 d6 b0 : Nat) (lf : Int32) (bt : Nat → Int32) (ln wa wb wc wd we : Int32) (hl0 : 0 ≤ ln.toInt) (hl1 : ln.toInt ≤ 3000) : Met l yX8_feed wsX8_feed ({ frames := 1, cells := 0, slots := 0, locals := 22 } : Room) (cP dC dI cB cC cI cJ [.ref h0, .int wa, .int wb, .int wc, .int wd, .int we] sz [(h0, .inr (8, [.ref d0, .ref d1, .ref d2, .ref d3, .ref d4, .ref d5, .ref d6, .int lf])), (d0, .inr (5, [.ref b0, .int ln])), (b0, .inl (cB, 3000, .inl bt))]) (va_Qi (fun r _ => r = (fX8_feed lf bt ln wa wb wc wd we).1 ∧ (0 ≤ (fX8_feed lf bt ln wa wb wc wd we).2.1.toInt ∧ (fX8_feed lf bt ln wa wb wc wd we).2.1.toInt ≤ 3000)) (cE dC dI (va_A [(h0, .inr (8, [.ref d0, .ref d1, .ref d2, .ref d3, .ref d4, .ref d5, .ref d6, .int lf])), (d0, .inr (5, [.ref b0, .int ln])), (b0, .inl (cB, 3000, .inl bt))] sz) [(h0, .inr (8, [.ref d0, .ref d1, .ref d2, .ref d3, .ref d4, .ref d5, .ref d6, .int lf])), (d0, .inr (5, [.ref b0, .int (fX8_feed lf bt ln wa wb wc wd we).2.1])), (b0, .inl (cB, 3000, .inl (fX8_feed lf bt ln wa wb wc wd we).2.2))]) (va_A [(h0, .inr (8, [.ref d0, .ref d1, .ref d2, .ref d3, .ref d4, .ref d5, .ref d6, .int lf])), (d0, .inr (5, [.ref b0, .int ln])), (b0, .inl (cB, 3000, .inl bt))] sz)) 0 0 (va_A [(h0, .inr (8, [.ref d0, .ref d1, .ref d2, .ref d3, .ref d4, .ref d5, .ref d6, .int lf])), (d0, .inr (5, [.ref b0, .int ln])), (b0, .inl (cB, 3000, .inl bt))] sz) := by
  refine Met.ofW (cc := cX8_feed) (maxL := 6) (ret := (some .boolean)) (by decide) rfl ?_
  intro p e s m args below meth c s₁ B hml hv
  obtain ⟨rfl, hsz, hP, hG, hD0⟩ := hv
  have hx := B.exec
  have hb := B.bytes
  have hr := B.returns
  have hts := atoms_spec (ws := wsX8_feed) B.pre
  have hown : s.vm.findClass RX8 = some m.cls := findClass_of_methodNamed B.named
  have hlocks := B.notSynchronized
  subst hsz
  have hD := hD0.self (sz := s.heap.size)
  generalize hAe : va_A [(h0, .inr (8, [.ref d0, .ref d1, .ref d2, .ref d3, .ref d4, .ref d5, .ref d6, .int lf])), (d0, .inr (5, [.ref b0, .int ln])), (b0, .inl (cB, 3000, .inl bt))] s.heap.size = A at hD ⊢
  have hA : ∀ q : Nat, s.heap.size ≤ q → A q := fun q h => by rw [← hAe]; exact Or.inr h
  obtain ⟨H, hH⟩ : ∃ H : Heap, H = s.heap := ⟨_, rfl⟩
  have hS : va_S A s.heap H [] := by rw [hH]; exact va_S.rf
  rw [← hH] at hP ⊢
  generalize hR : fX8_feed lf bt ln wa wb wc wd we = R
  unfold fX8_feed at hR
  have hl := lv_entry ([.ref h0, .int wa, .int wb, .int wc, .int wd, .int we]) (n := 6) (Nat.le_of_ble_eq_true rfl)
  rw [lg_entry_eq]
  generalize (lg_sl ([.ref h0, .int wa, .int wb, .int wc, .int wd, .int we]) ++ List.replicate (6 - (lg_sl ([.ref h0, .int wa, .int wb, .int wc, .int wd, .int we])).length) Slot.unset).toArray = ls at hl ⊢
  have hl : lv_has ls 6 [(0, .ref h0), (1, .int wa), (2, .int wb), (3, .int wc), (4, .int wd), (5, .int we)] := hl
  refine lv_aload_n hx hb dX8_feed_0 rfl (lv_at hl 0 rfl) ?_
  refine va_get (D := (dC, dI)) (ci := 8) (v := .ref d0) (C := RX8) (T := TX8) (N := 8) hx hb hts inc_X8_feed_8 hown hG.1 hP 0 rfl rfl 0 (by decide) (hts (.fieldLink RX8 10 "MappingDesk" "tape" "LMappingDesk$Tape;") (by decide +kernel)) (fun _ h9 => h9) rfl dX8_feed_1 ?_
  have hPc := hP.sub (ws' := [(d0, .inr (5, [.ref b0, .int ln])), (b0, .inl (cB, 3000, .inl bt))]) [1, 2] rfl
  have hDc := hD.sub (ws' := [(d0, .inr (5, [.ref b0, .int ln])), (b0, .inl (cB, 3000, .inl bt))]) [1, 2] (by decide) rfl
  refine vp_callSi (va_Run.run (va_runVN (C := RX5) (As := []) (rest := []) ⟨hx, hb, hml, hown, hts⟩ (c_X5_hasRoomForFive l dC dI cB cC cI cJ H.size d0 b0 bt ln ) ⟨va_cnB 0 hts gX8_feed_X5_hasRoomForFive_n58 rfl rfl rfl (hG.nm (A := #[]) (w := .methodLinkNest RX8 58 yX5_hasRoomForFive "MappingDesk") (by decide +kernel)) (hts (.initialized RX5) (by decide +kernel)) (by decide +kernel) ⟨(Nat.le_of_ble_eq_true rfl), (Nat.le_of_ble_eq_true rfl)⟩, hts (.instanceMethod yX5_hasRoomForFive) (by decide +kernel), hts (.selects RX5 yX5_hasRoomForFive yX5_hasRoomForFive) (by decide +kernel)⟩ ⟨cP_blind, va_recv hG.1 hPc (ci := 5) (q0 := 0) rfl rfl, cP_pre hPc hG hDc⟩ rfl rfl hl.1 rfl (lv_room (Nat.le_of_ble_eq_true rfl)) dX8_feed_4 ⟨Nat.le_of_ble_eq_true rfl, Nat.le_of_ble_eq_true rfl⟩)) (fun r_1 hr_1 => ?_)
  rw [bnd_eq hr_1.symm] at hR
  refine lv_if_ne (tgt := 12) hx hb dX8_feed_7 (by decide) (fun c_2 => ?_) (fun c_2 => ?_)
  · rw [if_neg c_2] at hR
    refine lv_aload_n hx hb dX8_feed_12 rfl (lv_at hl 0 rfl) ?_
    refine va_get (D := (dC, dI)) (ci := 8) (v := .ref d0) (C := RX8) (T := TX8) (N := 8) hx hb hts inc_X8_feed_8 hown hG.1 hP 0 rfl rfl 0 (by decide) (hts (.fieldLink RX8 10 "MappingDesk" "tape" "LMappingDesk$Tape;") (by decide +kernel)) (fun _ h9 => h9) rfl dX8_feed_13 ?_
    refine lv_iload_n hx hb dX8_feed_16 rfl (lv_at hl 1 rfl) ?_
    have p_3 : 0 ≤ ln.toInt := by
      first | exact hl0 | assumption
    have p_4 : ln.toInt ≤ 3000 := by
      first | exact hl1 | assumption
    have hPc := hP.sub (ws' := [(d0, .inr (5, [.ref b0, .int ln])), (b0, .inl (cB, 3000, .inl bt))]) [1, 2] rfl
    have hDc := hD.sub (ws' := [(d0, .inr (5, [.ref b0, .int ln])), (b0, .inl (cB, 3000, .inl bt))]) [1, 2] (by decide) rfl
    have hFc := va_free (wc := [(d0, .inr (5, [.ref b0, .int ln])), (b0, .inl (cB, 3000, .inl bt))]) hD hS hA [1, 2] rfl
    refine va_callv (va_runVN (C := RX5) (As := [.int wa]) (rest := []) ⟨hx, hb, hml, hown, hts⟩ (c_X5_appendFour l dC dI cB cC cI cJ H.size d0 b0 bt ln wa p_3 p_4) ⟨va_cnB 1 hts gX8_feed_X5_appendFour_n62 rfl rfl rfl (hG.nm (A := #[]) (w := .methodLinkNest RX8 62 yX5_appendFour "MappingDesk") (by decide +kernel)) (hts (.initialized RX5) (by decide +kernel)) (by decide +kernel) ⟨(Nat.le_of_ble_eq_true rfl), (Nat.le_of_ble_eq_true rfl)⟩, hts (.instanceMethod yX5_appendFour) (by decide +kernel), hts (.selects RX5 yX5_appendFour yX5_appendFour) (by decide +kernel)⟩ ⟨cP_blind, va_recv hG.1 hPc (ci := 5) (q0 := 0) rfl rfl, cP_pre hPc hG hDc⟩ rfl rfl hl.1 rfl (lv_room (Nat.le_of_ble_eq_true rfl)) dX8_feed_17 ⟨Nat.le_of_ble_eq_true rfl, Nat.le_of_ble_eq_true rfl⟩) hS (fun q _ h => hFc q h) hFc (fun u t H1 locs ht hvm hw hB hz1 hk1 hS => ?_)
    obtain ⟨hP1, hD1⟩ := hB
    rw [ht] at hP1
    generalize hr_5 : fX5_appendFour bt ln wa = r_5 at hP1 hD1 hw
    have er_5_0 := hw
    rw [bnd_eq hr_5] at hR
    obtain ⟨hP, hD⟩ := va_join (wr := [(h0, .inr (8, [.ref d0, .ref d1, .ref d2, .ref d3, .ref d4, .ref d5, .ref d6, .int lf]))]) (w1 := [(d0, .inr (5, [.ref b0, .int r_5.1])), (b0, .inl (cB, 3000, .inl r_5.2))]) hP hD [1, 2] [0] rfl rfl (by decide) (by decide) hk1 hFc hP1 hD1
    generalize H1 = H at hP hS ⊢
    have hP := hP.sub (ws' := [(h0, .inr (8, [.ref d0, .ref d1, .ref d2, .ref d3, .ref d4, .ref d5, .ref d6, .int lf])), (d0, .inr (5, [.ref b0, .int r_5.1])), (b0, .inl (cB, 3000, .inl r_5.2))]) [0, 1, 2] rfl
    have hD := hD.sub (ws' := [(h0, .inr (8, [.ref d0, .ref d1, .ref d2, .ref d3, .ref d4, .ref d5, .ref d6, .int lf])), (d0, .inr (5, [.ref b0, .int r_5.1])), (b0, .inl (cB, 3000, .inl r_5.2))]) [0, 1, 2] (by decide) rfl
    refine lv_aload_n hx hb dX8_feed_20 rfl (lv_at hl 0 rfl) ?_
    refine va_get (D := (dC, dI)) (ci := 8) (v := .ref d0) (C := RX8) (T := TX8) (N := 8) hx hb hts inc_X8_feed_8 hown hG.1 hP 0 rfl rfl 0 (by decide) (hts (.fieldLink RX8 10 "MappingDesk" "tape" "LMappingDesk$Tape;") (by decide +kernel)) (fun _ h9 => h9) rfl dX8_feed_21 ?_
    refine lv_iload_n hx hb dX8_feed_24 rfl (lv_at hl 2 rfl) ?_
    have p_6 : 0 ≤ r_5.1.toInt := by
      have k_7 : (0 : Int32).toInt = 0 := by decide
      have q_8 := i_ne c_2
      try generalize Int32.toInt r_5.1 = z0 at *
      try generalize Int32.toInt r_1 = z1 at *
      try generalize Int32.toInt ln = z2 at *
      try generalize Int32.toInt (0 : Int32) = z3 at *
      first | omega | exact ⟨by omega, by omega⟩
    have p_9 : r_5.1.toInt ≤ 3000 := by
      have k_10 : (0 : Int32).toInt = 0 := by decide
      have q_11 := i_ne c_2
      try generalize Int32.toInt r_5.1 = z0 at *
      try generalize Int32.toInt r_1 = z1 at *
      try generalize Int32.toInt ln = z2 at *
      try generalize Int32.toInt (0 : Int32) = z3 at *
      first | omega | exact ⟨by omega, by omega⟩
    have hPc := hP.sub (ws' := [(d0, .inr (5, [.ref b0, .int r_5.1])), (b0, .inl (cB, 3000, .inl r_5.2))]) [1, 2] rfl
    have hDc := hD.sub (ws' := [(d0, .inr (5, [.ref b0, .int r_5.1])), (b0, .inl (cB, 3000, .inl r_5.2))]) [1, 2] (by decide) rfl
    have hFc := va_free (wc := [(d0, .inr (5, [.ref b0, .int r_5.1])), (b0, .inl (cB, 3000, .inl r_5.2))]) hD hS hA [1, 2] rfl
    refine va_callv (va_runVN (C := RX5) (As := [.int wb]) (rest := []) ⟨hx, hb, hml, hown, hts⟩ (c_X5_appendFour l dC dI cB cC cI cJ H.size d0 b0 r_5.2 r_5.1 wb p_6 p_9) ⟨va_cnB 1 hts gX8_feed_X5_appendFour_n62 rfl rfl rfl (hG.nm (A := #[]) (w := .methodLinkNest RX8 62 yX5_appendFour "MappingDesk") (by decide +kernel)) (hts (.initialized RX5) (by decide +kernel)) (by decide +kernel) ⟨(Nat.le_of_ble_eq_true rfl), (Nat.le_of_ble_eq_true rfl)⟩, hts (.instanceMethod yX5_appendFour) (by decide +kernel), hts (.selects RX5 yX5_appendFour yX5_appendFour) (by decide +kernel)⟩ ⟨cP_blind, va_recv hG.1 hPc (ci := 5) (q0 := 0) rfl rfl, cP_pre hPc hG hDc⟩ rfl rfl hl.1 rfl (lv_room (Nat.le_of_ble_eq_true rfl)) dX8_feed_25 ⟨Nat.le_of_ble_eq_true rfl, Nat.le_of_ble_eq_true rfl⟩) hS (fun q _ h => hFc q h) hFc (fun u t H1 locs ht hvm hw hB hz1 hk1 hS => ?_)
    obtain ⟨hP1, hD1⟩ := hB
    rw [ht] at hP1
    generalize hr_12 : fX5_appendFour r_5.2 r_5.1 wb = r_12 at hP1 hD1 hw
    have er_12_0 := hw
    rw [bnd_eq hr_12] at hR
    obtain ⟨hP, hD⟩ := va_join (wr := [(h0, .inr (8, [.ref d0, .ref d1, .ref d2, .ref d3, .ref d4, .ref d5, .ref d6, .int lf]))]) (w1 := [(d0, .inr (5, [.ref b0, .int r_12.1])), (b0, .inl (cB, 3000, .inl r_12.2))]) hP hD [1, 2] [0] rfl rfl (by decide) (by decide) hk1 hFc hP1 hD1
    generalize H1 = H at hP hS ⊢
    have hP := hP.sub (ws' := [(h0, .inr (8, [.ref d0, .ref d1, .ref d2, .ref d3, .ref d4, .ref d5, .ref d6, .int lf])), (d0, .inr (5, [.ref b0, .int r_12.1])), (b0, .inl (cB, 3000, .inl r_12.2))]) [0, 1, 2] rfl
    have hD := hD.sub (ws' := [(h0, .inr (8, [.ref d0, .ref d1, .ref d2, .ref d3, .ref d4, .ref d5, .ref d6, .int lf])), (d0, .inr (5, [.ref b0, .int r_12.1])), (b0, .inl (cB, 3000, .inl r_12.2))]) [0, 1, 2] (by decide) rfl
    refine lv_aload_n hx hb dX8_feed_28 rfl (lv_at hl 0 rfl) ?_
    refine va_get (D := (dC, dI)) (ci := 8) (v := .ref d0) (C := RX8) (T := TX8) (N := 8) hx hb hts inc_X8_feed_8 hown hG.1 hP 0 rfl rfl 0 (by decide) (hts (.fieldLink RX8 10 "MappingDesk" "tape" "LMappingDesk$Tape;") (by decide +kernel)) (fun _ h9 => h9) rfl dX8_feed_29 ?_
    refine lv_iload_n hx hb dX8_feed_32 rfl (lv_at hl 3 rfl) ?_
    have p_13 : 0 ≤ r_12.1.toInt := by
      have k_14 : (0 : Int32).toInt = 0 := by decide
      have q_15 := i_ne c_2
      try generalize Int32.toInt r_12.1 = z0 at *
      try generalize Int32.toInt r_5.1 = z1 at *
      try generalize Int32.toInt r_1 = z2 at *
      try generalize Int32.toInt ln = z3 at *
      try generalize Int32.toInt (0 : Int32) = z4 at *
      first | omega | exact ⟨by omega, by omega⟩
    have p_16 : r_12.1.toInt ≤ 3000 := by
      have k_17 : (0 : Int32).toInt = 0 := by decide
      have q_18 := i_ne c_2
      try generalize Int32.toInt r_12.1 = z0 at *
      try generalize Int32.toInt r_5.1 = z1 at *
      try generalize Int32.toInt r_1 = z2 at *
      try generalize Int32.toInt ln = z3 at *
      try generalize Int32.toInt (0 : Int32) = z4 at *
      first | omega | exact ⟨by omega, by omega⟩
    have hPc := hP.sub (ws' := [(d0, .inr (5, [.ref b0, .int r_12.1])), (b0, .inl (cB, 3000, .inl r_12.2))]) [1, 2] rfl
    have hDc := hD.sub (ws' := [(d0, .inr (5, [.ref b0, .int r_12.1])), (b0, .inl (cB, 3000, .inl r_12.2))]) [1, 2] (by decide) rfl
    have hFc := va_free (wc := [(d0, .inr (5, [.ref b0, .int r_12.1])), (b0, .inl (cB, 3000, .inl r_12.2))]) hD hS hA [1, 2] rfl
    refine va_callv (va_runVN (C := RX5) (As := [.int wc]) (rest := []) ⟨hx, hb, hml, hown, hts⟩ (c_X5_appendFour l dC dI cB cC cI cJ H.size d0 b0 r_12.2 r_12.1 wc p_13 p_16) ⟨va_cnB 1 hts gX8_feed_X5_appendFour_n62 rfl rfl rfl (hG.nm (A := #[]) (w := .methodLinkNest RX8 62 yX5_appendFour "MappingDesk") (by decide +kernel)) (hts (.initialized RX5) (by decide +kernel)) (by decide +kernel) ⟨(Nat.le_of_ble_eq_true rfl), (Nat.le_of_ble_eq_true rfl)⟩, hts (.instanceMethod yX5_appendFour) (by decide +kernel), hts (.selects RX5 yX5_appendFour yX5_appendFour) (by decide +kernel)⟩ ⟨cP_blind, va_recv hG.1 hPc (ci := 5) (q0 := 0) rfl rfl, cP_pre hPc hG hDc⟩ rfl rfl hl.1 rfl (lv_room (Nat.le_of_ble_eq_true rfl)) dX8_feed_33 ⟨Nat.le_of_ble_eq_true rfl, Nat.le_of_ble_eq_true rfl⟩) hS (fun q _ h => hFc q h) hFc (fun u t H1 locs ht hvm hw hB hz1 hk1 hS => ?_)
    obtain ⟨hP1, hD1⟩ := hB
    rw [ht] at hP1
    generalize hr_19 : fX5_appendFour r_12.2 r_12.1 wc = r_19 at hP1 hD1 hw
    have er_19_0 := hw
    rw [bnd_eq hr_19] at hR
    obtain ⟨hP, hD⟩ := va_join (wr := [(h0, .inr (8, [.ref d0, .ref d1, .ref d2, .ref d3, .ref d4, .ref d5, .ref d6, .int lf]))]) (w1 := [(d0, .inr (5, [.ref b0, .int r_19.1])), (b0, .inl (cB, 3000, .inl r_19.2))]) hP hD [1, 2] [0] rfl rfl (by decide) (by decide) hk1 hFc hP1 hD1
    generalize H1 = H at hP hS ⊢
    have hP := hP.sub (ws' := [(h0, .inr (8, [.ref d0, .ref d1, .ref d2, .ref d3, .ref d4, .ref d5, .ref d6, .int lf])), (d0, .inr (5, [.ref b0, .int r_19.1])), (b0, .inl (cB, 3000, .inl r_19.2))]) [0, 1, 2] rfl
    have hD := hD.sub (ws' := [(h0, .inr (8, [.ref d0, .ref d1, .ref d2, .ref d3, .ref d4, .ref d5, .ref d6, .int lf])), (d0, .inr (5, [.ref b0, .int r_19.1])), (b0, .inl (cB, 3000, .inl r_19.2))]) [0, 1, 2] (by decide) rfl
    refine lv_aload_n hx hb dX8_feed_36 rfl (lv_at hl 0 rfl) ?_
    refine va_get (D := (dC, dI)) (ci := 8) (v := .ref d0) (C := RX8) (T := TX8) (N := 8) hx hb hts inc_X8_feed_8 hown hG.1 hP 0 rfl rfl 0 (by decide) (hts (.fieldLink RX8 10 "MappingDesk" "tape" "LMappingDesk$Tape;") (by decide +kernel)) (fun _ h9 => h9) rfl dX8_feed_37 ?_
    refine lv_iload hx hb dX8_feed_40 (lv_at hl 4 rfl) ?_
    have p_20 : 0 ≤ r_19.1.toInt := by
      have k_21 : (0 : Int32).toInt = 0 := by decide
      have q_22 := i_ne c_2
      try generalize Int32.toInt r_12.1 = z0 at *
      try generalize Int32.toInt r_19.1 = z1 at *
      try generalize Int32.toInt r_5.1 = z2 at *
      try generalize Int32.toInt r_1 = z3 at *
      try generalize Int32.toInt ln = z4 at *
      try generalize Int32.toInt (0 : Int32) = z5 at *
      first | omega | exact ⟨by omega, by omega⟩
    have p_23 : r_19.1.toInt ≤ 3000 := by
      have k_24 : (0 : Int32).toInt = 0 := by decide
      have q_25 := i_ne c_2
      try generalize Int32.toInt r_12.1 = z0 at *
      try generalize Int32.toInt r_19.1 = z1 at *
      try generalize Int32.toInt r_5.1 = z2 at *
      try generalize Int32.toInt r_1 = z3 at *
      try generalize Int32.toInt ln = z4 at *
      try generalize Int32.toInt (0 : Int32) = z5 at *
      first | omega | exact ⟨by omega, by omega⟩
    have hPc := hP.sub (ws' := [(d0, .inr (5, [.ref b0, .int r_19.1])), (b0, .inl (cB, 3000, .inl r_19.2))]) [1, 2] rfl
    have hDc := hD.sub (ws' := [(d0, .inr (5, [.ref b0, .int r_19.1])), (b0, .inl (cB, 3000, .inl r_19.2))]) [1, 2] (by decide) rfl
    have hFc := va_free (wc := [(d0, .inr (5, [.ref b0, .int r_19.1])), (b0, .inl (cB, 3000, .inl r_19.2))]) hD hS hA [1, 2] rfl
    refine va_callv (va_runVN (C := RX5) (As := [.int wd]) (rest := []) ⟨hx, hb, hml, hown, hts⟩ (c_X5_appendFour l dC dI cB cC cI cJ H.size d0 b0 r_19.2 r_19.1 wd p_20 p_23) ⟨va_cnB 1 hts gX8_feed_X5_appendFour_n62 rfl rfl rfl (hG.nm (A := #[]) (w := .methodLinkNest RX8 62 yX5_appendFour "MappingDesk") (by decide +kernel)) (hts (.initialized RX5) (by decide +kernel)) (by decide +kernel) ⟨(Nat.le_of_ble_eq_true rfl), (Nat.le_of_ble_eq_true rfl)⟩, hts (.instanceMethod yX5_appendFour) (by decide +kernel), hts (.selects RX5 yX5_appendFour yX5_appendFour) (by decide +kernel)⟩ ⟨cP_blind, va_recv hG.1 hPc (ci := 5) (q0 := 0) rfl rfl, cP_pre hPc hG hDc⟩ rfl rfl hl.1 rfl (lv_room (Nat.le_of_ble_eq_true rfl)) dX8_feed_42 ⟨Nat.le_of_ble_eq_true rfl, Nat.le_of_ble_eq_true rfl⟩) hS (fun q _ h => hFc q h) hFc (fun u t H1 locs ht hvm hw hB hz1 hk1 hS => ?_)
    obtain ⟨hP1, hD1⟩ := hB
    rw [ht] at hP1
    generalize hr_26 : fX5_appendFour r_19.2 r_19.1 wd = r_26 at hP1 hD1 hw
    have er_26_0 := hw
    rw [bnd_eq hr_26] at hR
    obtain ⟨hP, hD⟩ := va_join (wr := [(h0, .inr (8, [.ref d0, .ref d1, .ref d2, .ref d3, .ref d4, .ref d5, .ref d6, .int lf]))]) (w1 := [(d0, .inr (5, [.ref b0, .int r_26.1])), (b0, .inl (cB, 3000, .inl r_26.2))]) hP hD [1, 2] [0] rfl rfl (by decide) (by decide) hk1 hFc hP1 hD1
    generalize H1 = H at hP hS ⊢
    have hP := hP.sub (ws' := [(h0, .inr (8, [.ref d0, .ref d1, .ref d2, .ref d3, .ref d4, .ref d5, .ref d6, .int lf])), (d0, .inr (5, [.ref b0, .int r_26.1])), (b0, .inl (cB, 3000, .inl r_26.2))]) [0, 1, 2] rfl
    have hD := hD.sub (ws' := [(h0, .inr (8, [.ref d0, .ref d1, .ref d2, .ref d3, .ref d4, .ref d5, .ref d6, .int lf])), (d0, .inr (5, [.ref b0, .int r_26.1])), (b0, .inl (cB, 3000, .inl r_26.2))]) [0, 1, 2] (by decide) rfl
    refine lv_aload_n hx hb dX8_feed_45 rfl (lv_at hl 0 rfl) ?_
    refine va_get (D := (dC, dI)) (ci := 8) (v := .ref d0) (C := RX8) (T := TX8) (N := 8) hx hb hts inc_X8_feed_8 hown hG.1 hP 0 rfl rfl 0 (by decide) (hts (.fieldLink RX8 10 "MappingDesk" "tape" "LMappingDesk$Tape;") (by decide +kernel)) (fun _ h9 => h9) rfl dX8_feed_46 ?_
    refine lv_iload hx hb dX8_feed_49 (lv_at hl 5 rfl) ?_
    have p_27 : 0 ≤ r_26.1.toInt := by
      have k_28 : (0 : Int32).toInt = 0 := by decide
      have q_29 := i_ne c_2
      try generalize Int32.toInt r_12.1 = z0 at *
      try generalize Int32.toInt r_19.1 = z1 at *
      try generalize Int32.toInt r_26.1 = z2 at *
      try generalize Int32.toInt r_5.1 = z3 at *
      try generalize Int32.toInt r_1 = z4 at *
      try generalize Int32.toInt ln = z5 at *
      try generalize Int32.toInt (0 : Int32) = z6 at *
      first | omega | exact ⟨by omega, by omega⟩
    have p_30 : r_26.1.toInt ≤ 3000 := by
      have k_31 : (0 : Int32).toInt = 0 := by decide
      have q_32 := i_ne c_2
      try generalize Int32.toInt r_12.1 = z0 at *
      try generalize Int32.toInt r_19.1 = z1 at *
      try generalize Int32.toInt r_26.1 = z2 at *
      try generalize Int32.toInt r_5.1 = z3 at *
      try generalize Int32.toInt r_1 = z4 at *
      try generalize Int32.toInt ln = z5 at *
      try generalize Int32.toInt (0 : Int32) = z6 at *
      first | omega | exact ⟨by omega, by omega⟩
    have hPc := hP.sub (ws' := [(d0, .inr (5, [.ref b0, .int r_26.1])), (b0, .inl (cB, 3000, .inl r_26.2))]) [1, 2] rfl
    have hDc := hD.sub (ws' := [(d0, .inr (5, [.ref b0, .int r_26.1])), (b0, .inl (cB, 3000, .inl r_26.2))]) [1, 2] (by decide) rfl
    have hFc := va_free (wc := [(d0, .inr (5, [.ref b0, .int r_26.1])), (b0, .inl (cB, 3000, .inl r_26.2))]) hD hS hA [1, 2] rfl
    refine va_callv (va_runVN (C := RX5) (As := [.int we]) (rest := []) ⟨hx, hb, hml, hown, hts⟩ (c_X5_appendFour l dC dI cB cC cI cJ H.size d0 b0 r_26.2 r_26.1 we p_27 p_30) ⟨va_cnB 1 hts gX8_feed_X5_appendFour_n62 rfl rfl rfl (hG.nm (A := #[]) (w := .methodLinkNest RX8 62 yX5_appendFour "MappingDesk") (by decide +kernel)) (hts (.initialized RX5) (by decide +kernel)) (by decide +kernel) ⟨(Nat.le_of_ble_eq_true rfl), (Nat.le_of_ble_eq_true rfl)⟩, hts (.instanceMethod yX5_appendFour) (by decide +kernel), hts (.selects RX5 yX5_appendFour yX5_appendFour) (by decide +kernel)⟩ ⟨cP_blind, va_recv hG.1 hPc (ci := 5) (q0 := 0) rfl rfl, cP_pre hPc hG hDc⟩ rfl rfl hl.1 rfl (lv_room (Nat.le_of_ble_eq_true rfl)) dX8_feed_51 ⟨Nat.le_of_ble_eq_true rfl, Nat.le_of_ble_eq_true rfl⟩) hS (fun q _ h => hFc q h) hFc (fun u t H1 locs ht hvm hw hB hz1 hk1 hS => ?_)
    obtain ⟨hP1, hD1⟩ := hB
    rw [ht] at hP1
    generalize hr_33 : fX5_appendFour r_26.2 r_26.1 we = r_33 at hP1 hD1 hw
    have er_33_0 := hw
    rw [bnd_eq hr_33] at hR
    obtain ⟨hP, hD⟩ := va_join (wr := [(h0, .inr (8, [.ref d0, .ref d1, .ref d2, .ref d3, .ref d4, .ref d5, .ref d6, .int lf]))]) (w1 := [(d0, .inr (5, [.ref b0, .int r_33.1])), (b0, .inl (cB, 3000, .inl r_33.2))]) hP hD [1, 2] [0] rfl rfl (by decide) (by decide) hk1 hFc hP1 hD1
    generalize H1 = H at hP hS ⊢
    have hP := hP.sub (ws' := [(h0, .inr (8, [.ref d0, .ref d1, .ref d2, .ref d3, .ref d4, .ref d5, .ref d6, .int lf])), (d0, .inr (5, [.ref b0, .int r_33.1])), (b0, .inl (cB, 3000, .inl r_33.2))]) [0, 1, 2] rfl
    have hD := hD.sub (ws' := [(h0, .inr (8, [.ref d0, .ref d1, .ref d2, .ref d3, .ref d4, .ref d5, .ref d6, .int lf])), (d0, .inr (5, [.ref b0, .int r_33.1])), (b0, .inl (cB, 3000, .inl r_33.2))]) [0, 1, 2] (by decide) rfl
    refine lv_iconst (v := 1) hx hb dX8_feed_54 (by decide) ?_
    have e_34 : 0 ≤ (r_33.1 : Int32).toInt ∧ (r_33.1 : Int32).toInt ≤ 3000 := by
      have k_35 : (0 : Int32).toInt = 0 := by decide
      have q_36 := i_ne c_2
      try generalize Int32.toInt r_12.1 = z0 at *
      try generalize Int32.toInt r_19.1 = z1 at *
      try generalize Int32.toInt r_26.1 = z2 at *
      try generalize Int32.toInt r_33.1 = z3 at *
      try generalize Int32.toInt r_5.1 = z4 at *
      try generalize Int32.toInt r_1 = z5 at *
      try generalize Int32.toInt ln = z6 at *
      try generalize Int32.toInt (0 : Int32) = z7 at *
      omega
    subst hR
    exact W.zret (v := 1) hx hb hr rfl (fun t ht hW => ⟨⟨1, (), rfl, ⟨rfl, e_34⟩, by rw [ht]; exact hP, hD⟩, hS.F ht⟩) hS.2.2 dX8_feed_55
  · rw [if_pos c_2] at hR
    refine lv_iconst (v := 0) hx hb dX8_feed_10 (by decide) ?_
    have e_37 : 0 ≤ (ln : Int32).toInt ∧ (ln : Int32).toInt ≤ 3000 := by
      have k_38 : (0 : Int32).toInt = 0 := by decide
      have q_39 := i_eq c_2
      try generalize Int32.toInt r_1 = z0 at *
      try generalize Int32.toInt ln = z1 at *
      try generalize Int32.toInt (0 : Int32) = z2 at *
      omega
    subst hR
    exact W.zret (v := 0) hx hb hr rfl (fun t ht hW => ⟨⟨0, (), rfl, ⟨rfl, e_37⟩, by rw [ht]; exact hP, hD⟩, hS.F ht⟩) hS.2.2 dX8_feed_11

def fX8_put (lf : Int32) (g0 g1 g2 g3 g4 g5 : Int32) (cz : Int32) (u0 u1 u2 u3 u4 u5 : Nat → Int32) (co : Int32) (v0 v1 v2 v3 v4 v5 : Nat → Int32) (x y1 y2 y3 y4 y5 y6 : Int32) : Int32 × Int32 × Int32 × Int32 × Int32 × Int32 × Int32 × Int32 × (Nat → Int32) × (Nat → Int32) × (Nat → Int32) × (Nat → Int32) × (Nat → Int32) × (Nat → Int32) × Int32 × (Nat → Int32) × (Nat → Int32) × (Nat → Int32) × (Nat → Int32) × (Nat → Int32) × (Nat → Int32) :=
  if x = 0 then
    bnd (fX4_isFull cz) fun r_4 =>
    if r_4 = 0 then
      bnd (fX3_standAt g0 g1 g2 g3 g4 g5 y1 y2) fun r_6 =>
      if y3 < 0 then
        bnd (fX3_isInBounds r_6.1 r_6.2.1 r_6.2.2.1 r_6.2.2.2.1 r_6.2.2.2.2.1 r_6.2.2.2.2.2) fun r_8 =>
        if r_8 = 0 then
          ((-1), r_6.1, r_6.2.1, r_6.2.2.1, r_6.2.2.2.1, r_6.2.2.2.2.1, r_6.2.2.2.2.2, cz, u0, u1, u2, u3, u4, u5, co, v0, v1, v2, v3, v4, v5)
        else
          bnd (fX4_insert cz u0 u1 u2 u3 u4 u5 r_6.1 r_6.2.1 r_6.2.2.1 r_6.2.2.2.1 r_6.2.2.2.2.1 r_6.2.2.2.2.2) fun r_12 =>
          (r_12.1, r_6.1, r_6.2.1, r_6.2.2.1, r_6.2.2.2.1, r_6.2.2.2.2.1, r_6.2.2.2.2.2, r_12.1, r_12.2.1, r_12.2.2.1, r_12.2.2.2.1, r_12.2.2.2.2.1, r_12.2.2.2.2.2.1, r_12.2.2.2.2.2.2, co, v0, v1, v2, v3, v4, v5)
      else
        bnd (fX3_tell r_6.1 r_6.2.1 r_6.2.2.1 r_6.2.2.2.1 r_6.2.2.2.2.1 r_6.2.2.2.2.2 y3 y4 y5 y6) fun r_37 =>
        bnd (fX3_isInBounds r_6.1 r_6.2.1 r_37.1 r_37.2.1 r_37.2.2.1 r_37.2.2.2) fun r_38 =>
        if r_38 = 0 then
          ((-1), r_6.1, r_6.2.1, r_37.1, r_37.2.1, r_37.2.2.1, r_37.2.2.2, cz, u0, u1, u2, u3, u4, u5, co, v0, v1, v2, v3, v4, v5)
        else
          bnd (fX4_insert cz u0 u1 u2 u3 u4 u5 r_6.1 r_6.2.1 r_37.1 r_37.2.1 r_37.2.2.1 r_37.2.2.2) fun r_42 =>
          (r_42.1, r_6.1, r_6.2.1, r_37.1, r_37.2.1, r_37.2.2.1, r_37.2.2.2, r_42.1, r_42.2.1, r_42.2.2.1, r_42.2.2.2.1, r_42.2.2.2.2.1, r_42.2.2.2.2.2.1, r_42.2.2.2.2.2.2, co, v0, v1, v2, v3, v4, v5)
    else
      ((-1), g0, g1, g2, g3, g4, g5, cz, u0, u1, u2, u3, u4, u5, co, v0, v1, v2, v3, v4, v5)
  else
    if x = 1 then
      bnd (fX4_isFull co) fun r_79 =>
      if r_79 = 0 then
        bnd (fX3_standAt g0 g1 g2 g3 g4 g5 y1 y2) fun r_81 =>
        if y3 < 0 then
          bnd (fX3_isInBounds r_81.1 r_81.2.1 r_81.2.2.1 r_81.2.2.2.1 r_81.2.2.2.2.1 r_81.2.2.2.2.2) fun r_83 =>
          if r_83 = 0 then
            ((-1), r_81.1, r_81.2.1, r_81.2.2.1, r_81.2.2.2.1, r_81.2.2.2.2.1, r_81.2.2.2.2.2, cz, u0, u1, u2, u3, u4, u5, co, v0, v1, v2, v3, v4, v5)
          else
            bnd (fX4_insert co v0 v1 v2 v3 v4 v5 r_81.1 r_81.2.1 r_81.2.2.1 r_81.2.2.2.1 r_81.2.2.2.2.1 r_81.2.2.2.2.2) fun r_87 =>
            (r_87.1, r_81.1, r_81.2.1, r_81.2.2.1, r_81.2.2.2.1, r_81.2.2.2.2.1, r_81.2.2.2.2.2, cz, u0, u1, u2, u3, u4, u5, r_87.1, r_87.2.1, r_87.2.2.1, r_87.2.2.2.1, r_87.2.2.2.2.1, r_87.2.2.2.2.2.1, r_87.2.2.2.2.2.2)
        else
          bnd (fX3_tell r_81.1 r_81.2.1 r_81.2.2.1 r_81.2.2.2.1 r_81.2.2.2.2.1 r_81.2.2.2.2.2 y3 y4 y5 y6) fun r_120 =>
          bnd (fX3_isInBounds r_81.1 r_81.2.1 r_120.1 r_120.2.1 r_120.2.2.1 r_120.2.2.2) fun r_121 =>
          if r_121 = 0 then
            ((-1), r_81.1, r_81.2.1, r_120.1, r_120.2.1, r_120.2.2.1, r_120.2.2.2, cz, u0, u1, u2, u3, u4, u5, co, v0, v1, v2, v3, v4, v5)
          else
            bnd (fX4_insert co v0 v1 v2 v3 v4 v5 r_81.1 r_81.2.1 r_120.1 r_120.2.1 r_120.2.2.1 r_120.2.2.2) fun r_125 =>
            (r_125.1, r_81.1, r_81.2.1, r_120.1, r_120.2.1, r_120.2.2.1, r_120.2.2.2, cz, u0, u1, u2, u3, u4, u5, r_125.1, r_125.2.1, r_125.2.2.1, r_125.2.2.2.1, r_125.2.2.2.2.1, r_125.2.2.2.2.2.1, r_125.2.2.2.2.2.2)
      else
        ((-1), g0, g1, g2, g3, g4, g5, cz, u0, u1, u2, u3, u4, u5, co, v0, v1, v2, v3, v4, v5)
    else
      ((-1), g0, g1, g2, g3, g4, g5, cz, u0, u1, u2, u3, u4, u5, co, v0, v1, v2, v3, v4, v5)
theorem inc_X8_put_8 : ∀ w ∈ u_ws RX8 TX8 8, w ∈ wsX8_put := by decide +kernel
theorem inc_X8_put_4 : ∀ w ∈ u_ws RX4 TX4 7, w ∈ wsX8_put := by decide +kernel
set_option maxHeartbeats 4000000 in
set_option maxRecDepth 100000 in
theorem c_X8_put (l : Launch) (dC : Nat → ClassId) (dI : Nat → Nat → Nat) (cB cC cI cJ : ClassId) (sz : Nat) (h0 d0 d1 d2 d3 d4 d5 d6 z0 z1 z2 z3 z4 z5 o0 o1 o2 o3 o4 o5 : Nat) (lf : Int32) (g0 g1 g2 g3 g4 g5 : Int32) (cz : Int32) (u0 u1 u2 u3 u4 u5 : Nat → Int32) (co : Int32) (v0 v1 v2 v3 v4 v5 : Nat → Int32) (x y1 y2 y3 y4 y5 y6 : Int32) (hz0 : 0 ≤ cz.toInt) (hz1 : cz.toInt ≤ 300) (ho0 : 0 ≤ co.toInt) (ho1 : co.toInt ≤ 300) : Met l yX8_put wsX8_put ({ frames := 3, cells := 0, slots := 0, locals := 84 } : Room) (cP dC dI cB cC cI cJ [.ref h0, .int x, .int y1, .int y2, .int y3, .int y4, .int y5, .int y6] sz [(h0, .inr (8, [.ref d0, .ref d1, .ref d2, .ref d3, .ref d4, .ref d5, .ref d6, .int lf])), (d3, .inr (3, [.int g0, .int g1, .int g2, .int g3, .int g4, .int g5])), (d4, .inr (4, [.ref z0, .ref z1, .ref z2, .ref z3, .ref z4, .ref z5, .int cz])), (z0, .inl (cI, 300, .inl u0)), (z1, .inl (cI, 300, .inl u1)), (z2, .inl (cI, 300, .inl u2)), (z3, .inl (cI, 300, .inl u3)), (z4, .inl (cI, 300, .inl u4)), (z5, .inl (cI, 300, .inl u5)), (d5, .inr (4, [.ref o0, .ref o1, .ref o2, .ref o3, .ref o4, .ref o5, .int co])), (o0, .inl (cI, 300, .inl v0)), (o1, .inl (cI, 300, .inl v1)), (o2, .inl (cI, 300, .inl v2)), (o3, .inl (cI, 300, .inl v3)), (o4, .inl (cI, 300, .inl v4)), (o5, .inl (cI, 300, .inl v5))]) (va_Qi (fun r _ => r = (fX8_put lf g0 g1 g2 g3 g4 g5 cz u0 u1 u2 u3 u4 u5 co v0 v1 v2 v3 v4 v5 x y1 y2 y3 y4 y5 y6).1 ∧ (0 ≤ (fX8_put lf g0 g1 g2 g3 g4 g5 cz u0 u1 u2 u3 u4 u5 co v0 v1 v2 v3 v4 v5 x y1 y2 y3 y4 y5 y6).2.2.2.2.2.2.2.1.toInt ∧ (fX8_put lf g0 g1 g2 g3 g4 g5 cz u0 u1 u2 u3 u4 u5 co v0 v1 v2 v3 v4 v5 x y1 y2 y3 y4 y5 y6).2.2.2.2.2.2.2.1.toInt ≤ 300) ∧ (0 ≤ (fX8_put lf g0 g1 g2 g3 g4 g5 cz u0 u1 u2 u3 u4 u5 co v0 v1 v2 v3 v4 v5 x y1 y2 y3 y4 y5 y6).2.2.2.2.2.2.2.2.2.2.2.2.2.2.1.toInt ∧ (fX8_put lf g0 g1 g2 g3 g4 g5 cz u0 u1 u2 u3 u4 u5 co v0 v1 v2 v3 v4 v5 x y1 y2 y3 y4 y5 y6).2.2.2.2.2.2.2.2.2.2.2.2.2.2.1.toInt ≤ 300)) (cE dC dI (va_A [(h0, .inr (8, [.ref d0, .ref d1, .ref d2, .ref d3, .ref d4, .ref d5, .ref d6, .int lf])), (d3, .inr (3, [.int g0, .int g1, .int g2, .int g3, .int g4, .int g5])), (d4, .inr (4, [.ref z0, .ref z1, .ref z2, .ref z3, .ref z4, .ref z5, .int cz])), (z0, .inl (cI, 300, .inl u0)), (z1, .inl (cI, 300, .inl u1)), (z2, .inl (cI, 300, .inl u2)), (z3, .inl (cI, 300, .inl u3)), (z4, .inl (cI, 300, .inl u4)), (z5, .inl (cI, 300, .inl u5)), (d5, .inr (4, [.ref o0, .ref o1, .ref o2, .ref o3, .ref o4, .ref o5, .int co])), (o0, .inl (cI, 300, .inl v0)), (o1, .inl (cI, 300, .inl v1)), (o2, .inl (cI, 300, .inl v2)), (o3, .inl (cI, 300, .inl v3)), (o4, .inl (cI, 300, .inl v4)), (o5, .inl (cI, 300, .inl v5))] sz) [(h0, .inr (8, [.ref d0, .ref d1, .ref d2, .ref d3, .ref d4, .ref d5, .ref d6, .int lf])), (d3, .inr (3, [.int (fX8_put lf g0 g1 g2 g3 g4 g5 cz u0 u1 u2 u3 u4 u5 co v0 v1 v2 v3 v4 v5 x y1 y2 y3 y4 y5 y6).2.1, .int (fX8_put lf g0 g1 g2 g3 g4 g5 cz u0 u1 u2 u3 u4 u5 co v0 v1 v2 v3 v4 v5 x y1 y2 y3 y4 y5 y6).2.2.1, .int (fX8_put lf g0 g1 g2 g3 g4 g5 cz u0 u1 u2 u3 u4 u5 co v0 v1 v2 v3 v4 v5 x y1 y2 y3 y4 y5 y6).2.2.2.1, .int (fX8_put lf g0 g1 g2 g3 g4 g5 cz u0 u1 u2 u3 u4 u5 co v0 v1 v2 v3 v4 v5 x y1 y2 y3 y4 y5 y6).2.2.2.2.1, .int (fX8_put lf g0 g1 g2 g3 g4 g5 cz u0 u1 u2 u3 u4 u5 co v0 v1 v2 v3 v4 v5 x y1 y2 y3 y4 y5 y6).2.2.2.2.2.1, .int (fX8_put lf g0 g1 g2 g3 g4 g5 cz u0 u1 u2 u3 u4 u5 co v0 v1 v2 v3 v4 v5 x y1 y2 y3 y4 y5 y6).2.2.2.2.2.2.1])), (d4, .inr (4, [.ref z0, .ref z1, .ref z2, .ref z3, .ref z4, .ref z5, .int (fX8_put lf g0 g1 g2 g3 g4 g5 cz u0 u1 u2 u3 u4 u5 co v0 v1 v2 v3 v4 v5 x y1 y2 y3 y4 y5 y6).2.2.2.2.2.2.2.1])), (z0, .inl (cI, 300, .inl (fX8_put lf g0 g1 g2 g3 g4 g5 cz u0 u1 u2 u3 u4 u5 co v0 v1 v2 v3 v4 v5 x y1 y2 y3 y4 y5 y6).2.2.2.2.2.2.2.2.1)), (z1, .inl (cI, 300, .inl (fX8_put lf g0 g1 g2 g3 g4 g5 cz u0 u1 u2 u3 u4 u5 co v0 v1 v2 v3 v4 v5 x y1 y2 y3 y4 y5 y6).2.2.2.2.2.2.2.2.2.1)), (z2, .inl (cI, 300, .inl (fX8_put lf g0 g1 g2 g3 g4 g5 cz u0 u1 u2 u3 u4 u5 co v0 v1 v2 v3 v4 v5 x y1 y2 y3 y4 y5 y6).2.2.2.2.2.2.2.2.2.2.1)), (z3, .inl (cI, 300, .inl (fX8_put lf g0 g1 g2 g3 g4 g5 cz u0 u1 u2 u3 u4 u5 co v0 v1 v2 v3 v4 v5 x y1 y2 y3 y4 y5 y6).2.2.2.2.2.2.2.2.2.2.2.1)), (z4, .inl (cI, 300, .inl (fX8_put lf g0 g1 g2 g3 g4 g5 cz u0 u1 u2 u3 u4 u5 co v0 v1 v2 v3 v4 v5 x y1 y2 y3 y4 y5 y6).2.2.2.2.2.2.2.2.2.2.2.2.1)), (z5, .inl (cI, 300, .inl (fX8_put lf g0 g1 g2 g3 g4 g5 cz u0 u1 u2 u3 u4 u5 co v0 v1 v2 v3 v4 v5 x y1 y2 y3 y4 y5 y6).2.2.2.2.2.2.2.2.2.2.2.2.2.1)), (d5, .inr (4, [.ref o0, .ref o1, .ref o2, .ref o3, .ref o4, .ref o5, .int (fX8_put lf g0 g1 g2 g3 g4 g5 cz u0 u1 u2 u3 u4 u5 co v0 v1 v2 v3 v4 v5 x y1 y2 y3 y4 y5 y6).2.2.2.2.2.2.2.2.2.2.2.2.2.2.1])), (o0, .inl (cI, 300, .inl (fX8_put lf g0 g1 g2 g3 g4 g5 cz u0 u1 u2 u3 u4 u5 co v0 v1 v2 v3 v4 v5 x y1 y2 y3 y4 y5 y6).2.2.2.2.2.2.2.2.2.2.2.2.2.2.2.1)), (o1, .inl (cI, 300, .inl (fX8_put lf g0 g1 g2 g3 g4 g5 cz u0 u1 u2 u3 u4 u5 co v0 v1 v2 v3 v4 v5 x y1 y2 y3 y4 y5 y6).2.2.2.2.2.2.2.2.2.2.2.2.2.2.2.2.1)), (o2, .inl (cI, 300, .inl (fX8_put lf g0 g1 g2 g3 g4 g5 cz u0 u1 u2 u3 u4 u5 co v0 v1 v2 v3 v4 v5 x y1 y2 y3 y4 y5 y6).2.2.2.2.2.2.2.2.2.2.2.2.2.2.2.2.2.1)), (o3, .inl (cI, 300, .inl (fX8_put lf g0 g1 g2 g3 g4 g5 cz u0 u1 u2 u3 u4 u5 co v0 v1 v2 v3 v4 v5 x y1 y2 y3 y4 y5 y6).2.2.2.2.2.2.2.2.2.2.2.2.2.2.2.2.2.2.1)), (o4, .inl (cI, 300, .inl (fX8_put lf g0 g1 g2 g3 g4 g5 cz u0 u1 u2 u3 u4 u5 co v0 v1 v2 v3 v4 v5 x y1 y2 y3 y4 y5 y6).2.2.2.2.2.2.2.2.2.2.2.2.2.2.2.2.2.2.2.1)), (o5, .inl (cI, 300, .inl (fX8_put lf g0 g1 g2 g3 g4 g5 cz u0 u1 u2 u3 u4 u5 co v0 v1 v2 v3 v4 v5 x y1 y2 y3 y4 y5 y6).2.2.2.2.2.2.2.2.2.2.2.2.2.2.2.2.2.2.2.2))]) (va_A [(h0, .inr (8, [.ref d0, .ref d1, .ref d2, .ref d3, .ref d4, .ref d5, .ref d6, .int lf])), (d3, .inr (3, [.int g0, .int g1, .int g2, .int g3, .int g4, .int g5])), (d4, .inr (4, [.ref z0, .ref z1, .ref z2, .ref z3, .ref z4, .ref z5, .int cz])), (z0, .inl (cI, 300, .inl u0)), (z1, .inl (cI, 300, .inl u1)), (z2, .inl (cI, 300, .inl u2)), (z3, .inl (cI, 300, .inl u3)), (z4, .inl (cI, 300, .inl u4)), (z5, .inl (cI, 300, .inl u5)), (d5, .inr (4, [.ref o0, .ref o1, .ref o2, .ref o3, .ref o4, .ref o5, .int co])), (o0, .inl (cI, 300, .inl v0)), (o1, .inl (cI, 300, .inl v1)), (o2, .inl (cI, 300, .inl v2)), (o3, .inl (cI, 300, .inl v3)), (o4, .inl (cI, 300, .inl v4)), (o5, .inl (cI, 300, .inl v5))] sz)) 0 0 (va_A [(h0, .inr (8, [.ref d0, .ref d1, .ref d2, .ref d3, .ref d4, .ref d5, .ref d6, .int lf])), (d3, .inr (3, [.int g0, .int g1, .int g2, .int g3, .int g4, .int g5])), (d4, .inr (4, [.ref z0, .ref z1, .ref z2, .ref z3, .ref z4, .ref z5, .int cz])), (z0, .inl (cI, 300, .inl u0)), (z1, .inl (cI, 300, .inl u1)), (z2, .inl (cI, 300, .inl u2)), (z3, .inl (cI, 300, .inl u3)), (z4, .inl (cI, 300, .inl u4)), (z5, .inl (cI, 300, .inl u5)), (d5, .inr (4, [.ref o0, .ref o1, .ref o2, .ref o3, .ref o4, .ref o5, .int co])), (o0, .inl (cI, 300, .inl v0)), (o1, .inl (cI, 300, .inl v1)), (o2, .inl (cI, 300, .inl v2)), (o3, .inl (cI, 300, .inl v3)), (o4, .inl (cI, 300, .inl v4)), (o5, .inl (cI, 300, .inl v5))] sz) := by
  refine Met.ofW (cc := cX8_put) (maxL := 9) (ret := (some .int)) (by decide) rfl ?_
  intro p e s m args below meth c s₁ B hml hv
  obtain ⟨rfl, hsz, hP, hG, hD0⟩ := hv
  have hx := B.exec
  have hb := B.bytes
  have hr := B.returns
  have hts := atoms_spec (ws := wsX8_put) B.pre
  have hown : s.vm.findClass RX8 = some m.cls := findClass_of_methodNamed B.named
  have hlocks := B.notSynchronized
  subst hsz
  have hD := hD0.self (sz := s.heap.size)
  generalize hAe : va_A [(h0, .inr (8, [.ref d0, .ref d1, .ref d2, .ref d3, .ref d4, .ref d5, .ref d6, .int lf])), (d3, .inr (3, [.int g0, .int g1, .int g2, .int g3, .int g4, .int g5])), (d4, .inr (4, [.ref z0, .ref z1, .ref z2, .ref z3, .ref z4, .ref z5, .int cz])), (z0, .inl (cI, 300, .inl u0)), (z1, .inl (cI, 300, .inl u1)), (z2, .inl (cI, 300, .inl u2)), (z3, .inl (cI, 300, .inl u3)), (z4, .inl (cI, 300, .inl u4)), (z5, .inl (cI, 300, .inl u5)), (d5, .inr (4, [.ref o0, .ref o1, .ref o2, .ref o3, .ref o4, .ref o5, .int co])), (o0, .inl (cI, 300, .inl v0)), (o1, .inl (cI, 300, .inl v1)), (o2, .inl (cI, 300, .inl v2)), (o3, .inl (cI, 300, .inl v3)), (o4, .inl (cI, 300, .inl v4)), (o5, .inl (cI, 300, .inl v5))] s.heap.size = A at hD ⊢
  have hA : ∀ q : Nat, s.heap.size ≤ q → A q := fun q h => by rw [← hAe]; exact Or.inr h
  obtain ⟨H, hH⟩ : ∃ H : Heap, H = s.heap := ⟨_, rfl⟩
  have hS : va_S A s.heap H [] := by rw [hH]; exact va_S.rf
  rw [← hH] at hP ⊢
  generalize hR : fX8_put lf g0 g1 g2 g3 g4 g5 cz u0 u1 u2 u3 u4 u5 co v0 v1 v2 v3 v4 v5 x y1 y2 y3 y4 y5 y6 = R
  unfold fX8_put at hR
  have hl := lv_entry ([.ref h0, .int x, .int y1, .int y2, .int y3, .int y4, .int y5, .int y6]) (n := 9) (Nat.le_of_ble_eq_true rfl)
  rw [lg_entry_eq]
  generalize (lg_sl ([.ref h0, .int x, .int y1, .int y2, .int y3, .int y4, .int y5, .int y6]) ++ List.replicate (9 - (lg_sl ([.ref h0, .int x, .int y1, .int y2, .int y3, .int y4, .int y5, .int y6])).length) Slot.unset).toArray = ls at hl ⊢
  have hl : lv_has ls 9 [(0, .ref h0), (1, .int x), (2, .int y1), (3, .int y2), (4, .int y3), (5, .int y4), (6, .int y5), (7, .int y6)] := hl
  refine lv_aload_n hx hb dX8_put_0 rfl (lv_at hl 0 rfl) ?_
  refine lv_iload_n hx hb dX8_put_1 rfl (lv_at hl 1 rfl) ?_
  by_cases c_1 : x = 0
  · rw [if_pos c_1] at hR
    have p_2 : x = 0 := by
      assumption
    have hPc := hP.sub (ws' := [(h0, .inr (8, [.ref d0, .ref d1, .ref d2, .ref d3, .ref d4, .ref d5, .ref d6, .int lf]))]) [0] rfl
    have hDc := hD.sub (ws' := [(h0, .inr (8, [.ref d0, .ref d1, .ref d2, .ref d3, .ref d4, .ref d5, .ref d6, .int lf]))]) [0] (by decide) rfl
    refine va_csr (va_Run.run (va_runV (As := [.int x]) (rest := []) ⟨hx, hb, hml, hown, hts⟩ (c_X8_tableOf_0 l dC dI cB cC cI cJ H.size h0 d0 d1 d2 d3 d4 d5 d6 lf x p_2) (cwV 1 hts gX8_put_X8_tableOf rfl rfl rfl (by decide +kernel) ⟨(Nat.le_of_ble_eq_true rfl), (Nat.le_of_ble_eq_true rfl)⟩) ⟨cP_blind, va_recv hG.1 hPc (ci := 8) (q0 := 0) rfl rfl, cP_pre hPc hG hDc⟩ rfl rfl hl.1 rfl (lv_room (Nat.le_of_ble_eq_true rfl)) dX8_put_2 ⟨Nat.le_of_ble_eq_true rfl, Nat.le_of_ble_eq_true rfl⟩)) (fun r_3 hr_3 => ?_)
    show W _ _ _ _ _ _ _ _ _ _ _ _ _ _ _ (F0 m 5 ls (.ref d4 :: []))
    refine lv_astore (lv' := [(8, .ref d4), (0, .ref h0), (1, .int x), (2, .int y1), (3, .int y2), (4, .int y3), (5, .int y4), (6, .int y5), (7, .int y6)]) hx hb dX8_put_5 hl (by decide) rfl (fun ls hl => ?_)
    refine lv_aload hx hb dX8_put_7 (lv_at hl 0 rfl) ?_
    refine lv_ifnull hx hb dX8_put_9 ?_
    refine lv_aload hx hb dX8_put_12 (lv_at hl 0 rfl) ?_
    have hPc := hP.sub (ws' := [(d4, .inr (4, [.ref z0, .ref z1, .ref z2, .ref z3, .ref z4, .ref z5, .int cz]))]) [2] rfl
    have hDc := hD.sub (ws' := [(d4, .inr (4, [.ref z0, .ref z1, .ref z2, .ref z3, .ref z4, .ref z5, .int cz]))]) [2] (by decide) rfl
    refine vp_callSi (va_Run.run (va_runVN (C := RX4) (As := []) (rest := []) ⟨hx, hb, hml, hown, hts⟩ (c_X4_isFull l dC dI cB cC cI cJ H.size d4 z0 z1 z2 z3 z4 z5 cz ) ⟨va_cnB 0 hts gX8_put_X4_isFull_n90 rfl rfl rfl (hG.nm (A := #[]) (w := .methodLinkNest RX8 90 yX4_isFull "MappingDesk") (by decide +kernel)) (hts (.initialized RX4) (by decide +kernel)) (by decide +kernel) ⟨(Nat.le_of_ble_eq_true rfl), (Nat.le_of_ble_eq_true rfl)⟩, hts (.instanceMethod yX4_isFull) (by decide +kernel), hts (.selects RX4 yX4_isFull yX4_isFull) (by decide +kernel)⟩ ⟨cP_blind, va_recv hG.1 hPc (ci := 4) (q0 := 0) rfl rfl, cP_pre hPc hG hDc⟩ rfl rfl hl.1 rfl (lv_room (Nat.le_of_ble_eq_true rfl)) dX8_put_14 ⟨Nat.le_of_ble_eq_true rfl, Nat.le_of_ble_eq_true rfl⟩)) (fun r_4 hr_4 => ?_)
    rw [bnd_eq hr_4.symm] at hR
    refine lv_if_eq (tgt := 22) hx hb dX8_put_17 (by decide) (fun c_5 => ?_) (fun c_5 => ?_)
    · rw [if_pos c_5] at hR
      refine lv_aload_n hx hb dX8_put_22 rfl (lv_at hl 1 rfl) ?_
      refine va_get (D := (dC, dI)) (ci := 8) (v := .ref d3) (C := RX8) (T := TX8) (N := 8) hx hb hts inc_X8_put_8 hown hG.1 hP 0 rfl rfl 3 (by decide) (hts (.fieldLink RX8 33 "MappingDesk" "given" "LMappingDesk$Segment;") (by decide +kernel)) (fun _ h9 => h9) rfl dX8_put_23 ?_
      refine lv_iload_n hx hb dX8_put_26 rfl (lv_at hl 3 rfl) ?_
      refine lv_iload_n hx hb dX8_put_27 rfl (lv_at hl 4 rfl) ?_
      have hPc := hP.sub (ws' := [(d3, .inr (3, [.int g0, .int g1, .int g2, .int g3, .int g4, .int g5]))]) [1] rfl
      have hDc := hD.sub (ws' := [(d3, .inr (3, [.int g0, .int g1, .int g2, .int g3, .int g4, .int g5]))]) [1] (by decide) rfl
      have hFc := va_free (wc := [(d3, .inr (3, [.int g0, .int g1, .int g2, .int g3, .int g4, .int g5]))]) hD hS hA [1] rfl
      refine va_callv (va_runVN (C := RX3) (As := [.int y1, .int y2]) (rest := []) ⟨hx, hb, hml, hown, hts⟩ (c_X3_standAt l dC dI cB cC cI cJ H.size d3 g0 g1 g2 g3 g4 g5 y1 y2 ) ⟨va_cnB 2 hts gX8_put_X3_standAt_n93 rfl rfl rfl (hG.nm (A := #[]) (w := .methodLinkNest RX8 93 yX3_standAt "MappingDesk") (by decide +kernel)) (hts (.initialized RX3) (by decide +kernel)) (by decide +kernel) ⟨(Nat.le_of_ble_eq_true rfl), (Nat.le_of_ble_eq_true rfl)⟩, hts (.instanceMethod yX3_standAt) (by decide +kernel), hts (.selects RX3 yX3_standAt yX3_standAt) (by decide +kernel)⟩ ⟨cP_blind, va_recv hG.1 hPc (ci := 3) (q0 := 0) rfl rfl, cP_pre hPc hG hDc⟩ rfl rfl hl.1 rfl (lv_room (Nat.le_of_ble_eq_true rfl)) dX8_put_28 ⟨Nat.le_of_ble_eq_true rfl, Nat.le_of_ble_eq_true rfl⟩) hS (fun q _ h => hFc q h) hFc (fun u t H1 locs ht hvm hw hB hz1 hk1 hS => ?_)
      obtain ⟨hP1, hD1⟩ := hB
      rw [ht] at hP1
      generalize hr_6 : fX3_standAt g0 g1 g2 g3 g4 g5 y1 y2 = r_6 at hP1 hD1 hw
      have er_6_0 := hw
      rw [bnd_eq hr_6] at hR
      obtain ⟨hP, hD⟩ := va_join (wr := [(h0, .inr (8, [.ref d0, .ref d1, .ref d2, .ref d3, .ref d4, .ref d5, .ref d6, .int lf])), (d4, .inr (4, [.ref z0, .ref z1, .ref z2, .ref z3, .ref z4, .ref z5, .int cz])), (z0, .inl (cI, 300, .inl u0)), (z1, .inl (cI, 300, .inl u1)), (z2, .inl (cI, 300, .inl u2)), (z3, .inl (cI, 300, .inl u3)), (z4, .inl (cI, 300, .inl u4)), (z5, .inl (cI, 300, .inl u5)), (d5, .inr (4, [.ref o0, .ref o1, .ref o2, .ref o3, .ref o4, .ref o5, .int co])), (o0, .inl (cI, 300, .inl v0)), (o1, .inl (cI, 300, .inl v1)), (o2, .inl (cI, 300, .inl v2)), (o3, .inl (cI, 300, .inl v3)), (o4, .inl (cI, 300, .inl v4)), (o5, .inl (cI, 300, .inl v5))]) (w1 := [(d3, .inr (3, [.int r_6.1, .int r_6.2.1, .int r_6.2.2.1, .int r_6.2.2.2.1, .int r_6.2.2.2.2.1, .int r_6.2.2.2.2.2]))]) hP hD [1] [0, 2, 3, 4, 5, 6, 7, 8, 9, 10, 11, 12, 13, 14, 15] rfl rfl (by decide) (by decide) hk1 hFc hP1 hD1
      generalize H1 = H at hP hS ⊢
      have hP := hP.sub (ws' := [(h0, .inr (8, [.ref d0, .ref d1, .ref d2, .ref d3, .ref d4, .ref d5, .ref d6, .int lf])), (d3, .inr (3, [.int r_6.1, .int r_6.2.1, .int r_6.2.2.1, .int r_6.2.2.2.1, .int r_6.2.2.2.2.1, .int r_6.2.2.2.2.2])), (d4, .inr (4, [.ref z0, .ref z1, .ref z2, .ref z3, .ref z4, .ref z5, .int cz])), (z0, .inl (cI, 300, .inl u0)), (z1, .inl (cI, 300, .inl u1)), (z2, .inl (cI, 300, .inl u2)), (z3, .inl (cI, 300, .inl u3)), (z4, .inl (cI, 300, .inl u4)), (z5, .inl (cI, 300, .inl u5)), (d5, .inr (4, [.ref o0, .ref o1, .ref o2, .ref o3, .ref o4, .ref o5, .int co])), (o0, .inl (cI, 300, .inl v0)), (o1, .inl (cI, 300, .inl v1)), (o2, .inl (cI, 300, .inl v2)), (o3, .inl (cI, 300, .inl v3)), (o4, .inl (cI, 300, .inl v4)), (o5, .inl (cI, 300, .inl v5))]) [0, 15, 1, 2, 3, 4, 5, 6, 7, 8, 9, 10, 11, 12, 13, 14] rfl
      have hD := hD.sub (ws' := [(h0, .inr (8, [.ref d0, .ref d1, .ref d2, .ref d3, .ref d4, .ref d5, .ref d6, .int lf])), (d3, .inr (3, [.int r_6.1, .int r_6.2.1, .int r_6.2.2.1, .int r_6.2.2.2.1, .int r_6.2.2.2.2.1, .int r_6.2.2.2.2.2])), (d4, .inr (4, [.ref z0, .ref z1, .ref z2, .ref z3, .ref z4, .ref z5, .int cz])), (z0, .inl (cI, 300, .inl u0)), (z1, .inl (cI, 300, .inl u1)), (z2, .inl (cI, 300, .inl u2)), (z3, .inl (cI, 300, .inl u3)), (z4, .inl (cI, 300, .inl u4)), (z5, .inl (cI, 300, .inl u5)), (d5, .inr (4, [.ref o0, .ref o1, .ref o2, .ref o3, .ref o4, .ref o5, .int co])), (o0, .inl (cI, 300, .inl v0)), (o1, .inl (cI, 300, .inl v1)), (o2, .inl (cI, 300, .inl v2)), (o3, .inl (cI, 300, .inl v3)), (o4, .inl (cI, 300, .inl v4)), (o5, .inl (cI, 300, .inl v5))]) [0, 15, 1, 2, 3, 4, 5, 6, 7, 8, 9, 10, 11, 12, 13, 14] (by decide) rfl
      refine lv_iload hx hb dX8_put_31 (lv_at hl 5 rfl) ?_
      refine lv_if_lt (tgt := 51) hx hb dX8_put_33 (by decide) (fun c_7 => ?_) (fun c_7 => ?_)
      · rw [if_pos c_7] at hR
        refine lv_aload_n hx hb dX8_put_51 rfl (lv_at hl 1 rfl) ?_
        refine va_get (D := (dC, dI)) (ci := 8) (v := .ref d3) (C := RX8) (T := TX8) (N := 8) hx hb hts inc_X8_put_8 hown hG.1 hP 0 rfl rfl 3 (by decide) (hts (.fieldLink RX8 33 "MappingDesk" "given" "LMappingDesk$Segment;") (by decide +kernel)) (fun _ h9 => h9) rfl dX8_put_52 ?_
        have hPc := hP.sub (ws' := [(d3, .inr (3, [.int r_6.1, .int r_6.2.1, .int r_6.2.2.1, .int r_6.2.2.2.1, .int r_6.2.2.2.2.1, .int r_6.2.2.2.2.2]))]) [1] rfl
        have hDc := hD.sub (ws' := [(d3, .inr (3, [.int r_6.1, .int r_6.2.1, .int r_6.2.2.1, .int r_6.2.2.2.1, .int r_6.2.2.2.2.1, .int r_6.2.2.2.2.2]))]) [1] (by decide) rfl
        refine vp_callSi (va_Run.run (va_runVN (C := RX3) (As := []) (rest := []) ⟨hx, hb, hml, hown, hts⟩ (c_X3_isInBounds l dC dI cB cC cI cJ H.size d3 r_6.1 r_6.2.1 r_6.2.2.1 r_6.2.2.2.1 r_6.2.2.2.2.1 r_6.2.2.2.2.2 ) ⟨va_cnB 0 hts gX8_put_X3_isInBounds_n101 rfl rfl rfl (hG.nm (A := #[]) (w := .methodLinkNest RX8 101 yX3_isInBounds "MappingDesk") (by decide +kernel)) (hts (.initialized RX3) (by decide +kernel)) (by decide +kernel) ⟨(Nat.le_of_ble_eq_true rfl), (Nat.le_of_ble_eq_true rfl)⟩, hts (.instanceMethod yX3_isInBounds) (by decide +kernel), hts (.selects RX3 yX3_isInBounds yX3_isInBounds) (by decide +kernel)⟩ ⟨cP_blind, va_recv hG.1 hPc (ci := 3) (q0 := 0) rfl rfl, cP_pre hPc hG hDc⟩ rfl rfl hl.1 rfl (lv_room (Nat.le_of_ble_eq_true rfl)) dX8_put_55 ⟨Nat.le_of_ble_eq_true rfl, Nat.le_of_ble_eq_true rfl⟩)) (fun r_8 hr_8 => ?_)
        rw [bnd_eq hr_8.symm] at hR
        refine lv_if_ne (tgt := 63) hx hb dX8_put_58 (by decide) (fun c_9 => ?_) (fun c_9 => ?_)
        · rw [if_neg c_9] at hR
          refine lv_aload hx hb dX8_put_63 (lv_at hl 0 rfl) ?_
          refine lv_aload_n hx hb dX8_put_65 rfl (lv_at hl 1 rfl) ?_
          refine va_get (D := (dC, dI)) (ci := 8) (v := .ref d3) (C := RX8) (T := TX8) (N := 8) hx hb hts inc_X8_put_8 hown hG.1 hP 0 rfl rfl 3 (by decide) (hts (.fieldLink RX8 33 "MappingDesk" "given" "LMappingDesk$Segment;") (by decide +kernel)) (fun _ h9 => h9) rfl dX8_put_66 ?_
          have p_10 : 0 ≤ cz.toInt := by
            first | exact hz0 | assumption
          have p_11 : cz.toInt ≤ 300 := by
            first | exact hz1 | assumption
          have hPc := hP.sub (ws' := [(d4, .inr (4, [.ref z0, .ref z1, .ref z2, .ref z3, .ref z4, .ref z5, .int cz])), (z0, .inl (cI, 300, .inl u0)), (z1, .inl (cI, 300, .inl u1)), (z2, .inl (cI, 300, .inl u2)), (z3, .inl (cI, 300, .inl u3)), (z4, .inl (cI, 300, .inl u4)), (z5, .inl (cI, 300, .inl u5)), (d3, .inr (3, [.int r_6.1, .int r_6.2.1, .int r_6.2.2.1, .int r_6.2.2.2.1, .int r_6.2.2.2.2.1, .int r_6.2.2.2.2.2]))]) [2, 3, 4, 5, 6, 7, 8, 1] rfl
          have hDc := hD.sub (ws' := [(d4, .inr (4, [.ref z0, .ref z1, .ref z2, .ref z3, .ref z4, .ref z5, .int cz])), (z0, .inl (cI, 300, .inl u0)), (z1, .inl (cI, 300, .inl u1)), (z2, .inl (cI, 300, .inl u2)), (z3, .inl (cI, 300, .inl u3)), (z4, .inl (cI, 300, .inl u4)), (z5, .inl (cI, 300, .inl u5)), (d3, .inr (3, [.int r_6.1, .int r_6.2.1, .int r_6.2.2.1, .int r_6.2.2.2.1, .int r_6.2.2.2.2.1, .int r_6.2.2.2.2.2]))]) [2, 3, 4, 5, 6, 7, 8, 1] (by decide) rfl
          have hFc := va_free (wc := [(d4, .inr (4, [.ref z0, .ref z1, .ref z2, .ref z3, .ref z4, .ref z5, .int cz])), (z0, .inl (cI, 300, .inl u0)), (z1, .inl (cI, 300, .inl u1)), (z2, .inl (cI, 300, .inl u2)), (z3, .inl (cI, 300, .inl u3)), (z4, .inl (cI, 300, .inl u4)), (z5, .inl (cI, 300, .inl u5)), (d3, .inr (3, [.int r_6.1, .int r_6.2.1, .int r_6.2.2.1, .int r_6.2.2.2.1, .int r_6.2.2.2.2.1, .int r_6.2.2.2.2.2]))]) hD hS hA [2, 3, 4, 5, 6, 7, 8, 1] rfl
          refine va_callv (va_runVN (C := RX4) (As := [.ref d3]) (rest := []) ⟨hx, hb, hml, hown, hts⟩ (c_X4_insert l dC dI cB cC cI cJ H.size d4 d3 z0 z1 z2 z3 z4 z5 cz u0 u1 u2 u3 u4 u5 r_6.1 r_6.2.1 r_6.2.2.1 r_6.2.2.2.1 r_6.2.2.2.2.1 r_6.2.2.2.2.2 p_10 p_11) ⟨va_cnB 1 hts gX8_put_X4_insert_n104 rfl rfl rfl (hG.nm (A := #[]) (w := .methodLinkNest RX8 104 yX4_insert "MappingDesk") (by decide +kernel)) (hts (.initialized RX4) (by decide +kernel)) (by decide +kernel) ⟨(Nat.le_of_ble_eq_true rfl), (Nat.le_of_ble_eq_true rfl)⟩, hts (.instanceMethod yX4_insert) (by decide +kernel), hts (.selects RX4 yX4_insert yX4_insert) (by decide +kernel)⟩ ⟨cP_blind, va_recv hG.1 hPc (ci := 4) (q0 := 0) rfl rfl, cP_pre hPc hG hDc⟩ rfl rfl hl.1 rfl (lv_room (Nat.le_of_ble_eq_true rfl)) dX8_put_69 ⟨Nat.le_of_ble_eq_true rfl, Nat.le_of_ble_eq_true rfl⟩) hS (fun q _ h => hFc q h) hFc (fun u t H1 locs ht hvm hw hB hz1 hk1 hS => ?_)
          obtain ⟨hP1, hD1⟩ := hB
          rw [ht] at hP1
          generalize hr_12 : fX4_insert cz u0 u1 u2 u3 u4 u5 r_6.1 r_6.2.1 r_6.2.2.1 r_6.2.2.2.1 r_6.2.2.2.2.1 r_6.2.2.2.2.2 = r_12 at hP1 hD1 hw
          have er_12_0 := hw
          rw [bnd_eq hr_12] at hR
          obtain ⟨hP, hD⟩ := va_join (wr := [(h0, .inr (8, [.ref d0, .ref d1, .ref d2, .ref d3, .ref d4, .ref d5, .ref d6, .int lf])), (d5, .inr (4, [.ref o0, .ref o1, .ref o2, .ref o3, .ref o4, .ref o5, .int co])), (o0, .inl (cI, 300, .inl v0)), (o1, .inl (cI, 300, .inl v1)), (o2, .inl (cI, 300, .inl v2)), (o3, .inl (cI, 300, .inl v3)), (o4, .inl (cI, 300, .inl v4)), (o5, .inl (cI, 300, .inl v5))]) (w1 := [(d4, .inr (4, [.ref z0, .ref z1, .ref z2, .ref z3, .ref z4, .ref z5, .int r_12.1])), (z0, .inl (cI, 300, .inl r_12.2.1)), (z1, .inl (cI, 300, .inl r_12.2.2.1)), (z2, .inl (cI, 300, .inl r_12.2.2.2.1)), (z3, .inl (cI, 300, .inl r_12.2.2.2.2.1)), (z4, .inl (cI, 300, .inl r_12.2.2.2.2.2.1)), (z5, .inl (cI, 300, .inl r_12.2.2.2.2.2.2)), (d3, .inr (3, [.int r_6.1, .int r_6.2.1, .int r_6.2.2.1, .int r_6.2.2.2.1, .int r_6.2.2.2.2.1, .int r_6.2.2.2.2.2]))]) hP hD [2, 3, 4, 5, 6, 7, 8, 1] [0, 9, 10, 11, 12, 13, 14, 15] rfl rfl (by decide) (by decide) hk1 hFc hP1 hD1
          generalize H1 = H at hP hS ⊢
          have hP := hP.sub (ws' := [(h0, .inr (8, [.ref d0, .ref d1, .ref d2, .ref d3, .ref d4, .ref d5, .ref d6, .int lf])), (d3, .inr (3, [.int r_6.1, .int r_6.2.1, .int r_6.2.2.1, .int r_6.2.2.2.1, .int r_6.2.2.2.2.1, .int r_6.2.2.2.2.2])), (d4, .inr (4, [.ref z0, .ref z1, .ref z2, .ref z3, .ref z4, .ref z5, .int r_12.1])), (z0, .inl (cI, 300, .inl r_12.2.1)), (z1, .inl (cI, 300, .inl r_12.2.2.1)), (z2, .inl (cI, 300, .inl r_12.2.2.2.1)), (z3, .inl (cI, 300, .inl r_12.2.2.2.2.1)), (z4, .inl (cI, 300, .inl r_12.2.2.2.2.2.1)), (z5, .inl (cI, 300, .inl r_12.2.2.2.2.2.2)), (d5, .inr (4, [.ref o0, .ref o1, .ref o2, .ref o3, .ref o4, .ref o5, .int co])), (o0, .inl (cI, 300, .inl v0)), (o1, .inl (cI, 300, .inl v1)), (o2, .inl (cI, 300, .inl v2)), (o3, .inl (cI, 300, .inl v3)), (o4, .inl (cI, 300, .inl v4)), (o5, .inl (cI, 300, .inl v5))]) [0, 15, 8, 9, 10, 11, 12, 13, 14, 1, 2, 3, 4, 5, 6, 7] rfl
          have hD := hD.sub (ws' := [(h0, .inr (8, [.ref d0, .ref d1, .ref d2, .ref d3, .ref d4, .ref d5, .ref d6, .int lf])), (d3, .inr (3, [.int r_6.1, .int r_6.2.1, .int r_6.2.2.1, .int r_6.2.2.2.1, .int r_6.2.2.2.2.1, .int r_6.2.2.2.2.2])), (d4, .inr (4, [.ref z0, .ref z1, .ref z2, .ref z3, .ref z4, .ref z5, .int r_12.1])), (z0, .inl (cI, 300, .inl r_12.2.1)), (z1, .inl (cI, 300, .inl r_12.2.2.1)), (z2, .inl (cI, 300, .inl r_12.2.2.2.1)), (z3, .inl (cI, 300, .inl r_12.2.2.2.2.1)), (z4, .inl (cI, 300, .inl r_12.2.2.2.2.2.1)), (z5, .inl (cI, 300, .inl r_12.2.2.2.2.2.2)), (d5, .inr (4, [.ref o0, .ref o1, .ref o2, .ref o3, .ref o4, .ref o5, .int co])), (o0, .inl (cI, 300, .inl v0)), (o1, .inl (cI, 300, .inl v1)), (o2, .inl (cI, 300, .inl v2)), (o3, .inl (cI, 300, .inl v3)), (o4, .inl (cI, 300, .inl v4)), (o5, .inl (cI, 300, .inl v5))]) [0, 15, 8, 9, 10, 11, 12, 13, 14, 1, 2, 3, 4, 5, 6, 7] (by decide) rfl
          refine lv_aload hx hb dX8_put_72 (lv_at hl 0 rfl) ?_
          refine va_getN (D := (dC, dI)) (ci := 4) (v := .int r_12.1) (C := RX4) (T := TX4) (N := 7) hx hb hts inc_X8_put_4 hown hG.1 hP 2 rfl rfl 6 (by decide) (hG.nf (a := RX8) (i := 87) (b := "MappingDesk$Table") (n := "count") (d := "I") (t := "MappingDesk") (by decide +kernel)) (fun _ h9 => h9) rfl dX8_put_74 ?_
          have e_13 : 0 ≤ (r_12.1 : Int32).toInt ∧ (r_12.1 : Int32).toInt ≤ 300 := by
            have k_14 : (0 : Int32).toInt = 0 := by decide
            have q_15 := i_eq c_1
            have q_16 := i_eq c_5
            have q_17 := i_lt c_7
            have q_18 := i_ne c_9
            try generalize Int32.toInt r_12.1 = z0 at *
            try generalize Int32.toInt r_6.1 = z1 at *
            try generalize Int32.toInt r_4 = z2 at *
            try generalize Int32.toInt r_8 = z3 at *
            try generalize Int32.toInt co = z4 at *
            try generalize Int32.toInt cz = z5 at *
            try generalize Int32.toInt y3 = z6 at *
            try generalize Int32.toInt (0 : Int32) = z7 at *
            try generalize Int32.toInt x = z8 at *
            omega
          have e_19 : 0 ≤ (co : Int32).toInt ∧ (co : Int32).toInt ≤ 300 := by
            have k_20 : (0 : Int32).toInt = 0 := by decide
            have q_21 := i_eq c_1
            have q_22 := i_eq c_5
            have q_23 := i_lt c_7
            have q_24 := i_ne c_9
            try generalize Int32.toInt r_12.1 = z0 at *
            try generalize Int32.toInt r_6.1 = z1 at *
            try generalize Int32.toInt r_4 = z2 at *
            try generalize Int32.toInt r_8 = z3 at *
            try generalize Int32.toInt co = z4 at *
            try generalize Int32.toInt cz = z5 at *
            try generalize Int32.toInt y3 = z6 at *
            try generalize Int32.toInt (0 : Int32) = z7 at *
            try generalize Int32.toInt x = z8 at *
            omega
          subst hR
          exact W.iret (v := r_12.1) hx hb hr (fun t ht hW => ⟨⟨r_12.1, (), rfl, ⟨rfl, e_13, e_19⟩, by rw [ht]; exact hP, hD⟩, hS.F ht⟩) hS.2.2 dX8_put_77
        · rw [if_pos c_9] at hR
          refine lv_iconst (v := (-1)) hx hb dX8_put_61 (by decide) ?_
          have e_25 : 0 ≤ (cz : Int32).toInt ∧ (cz : Int32).toInt ≤ 300 := by
            have k_26 : (0 : Int32).toInt = 0 := by decide
            have q_27 := i_eq c_1
            have q_28 := i_eq c_5
            have q_29 := i_lt c_7
            have q_30 := i_eq c_9
            try generalize Int32.toInt r_6.1 = z0 at *
            try generalize Int32.toInt r_4 = z1 at *
            try generalize Int32.toInt r_8 = z2 at *
            try generalize Int32.toInt co = z3 at *
            try generalize Int32.toInt cz = z4 at *
            try generalize Int32.toInt y3 = z5 at *
            try generalize Int32.toInt (0 : Int32) = z6 at *
            try generalize Int32.toInt x = z7 at *
            omega
          have e_31 : 0 ≤ (co : Int32).toInt ∧ (co : Int32).toInt ≤ 300 := by
            have k_32 : (0 : Int32).toInt = 0 := by decide
            have q_33 := i_eq c_1
            have q_34 := i_eq c_5
            have q_35 := i_lt c_7
            have q_36 := i_eq c_9
            try generalize Int32.toInt r_6.1 = z0 at *
            try generalize Int32.toInt r_4 = z1 at *
            try generalize Int32.toInt r_8 = z2 at *
            try generalize Int32.toInt co = z3 at *
            try generalize Int32.toInt cz = z4 at *
            try generalize Int32.toInt y3 = z5 at *
            try generalize Int32.toInt (0 : Int32) = z6 at *
            try generalize Int32.toInt x = z7 at *
            omega
          subst hR
          exact W.iret (v := (-1)) hx hb hr (fun t ht hW => ⟨⟨(-1), (), rfl, ⟨rfl, e_25, e_31⟩, by rw [ht]; exact hP, hD⟩, hS.F ht⟩) hS.2.2 dX8_put_62
      · rw [if_neg c_7] at hR
        refine lv_aload_n hx hb dX8_put_36 rfl (lv_at hl 1 rfl) ?_
        refine va_get (D := (dC, dI)) (ci := 8) (v := .ref d3) (C := RX8) (T := TX8) (N := 8) hx hb hts inc_X8_put_8 hown hG.1 hP 0 rfl rfl 3 (by decide) (hts (.fieldLink RX8 33 "MappingDesk" "given" "LMappingDesk$Segment;") (by decide +kernel)) (fun _ h9 => h9) rfl dX8_put_37 ?_
        refine lv_iload hx hb dX8_put_40 (lv_at hl 5 rfl) ?_
        refine lv_iload hx hb dX8_put_42 (lv_at hl 6 rfl) ?_
        refine lv_iload hx hb dX8_put_44 (lv_at hl 7 rfl) ?_
        refine lv_iload hx hb dX8_put_46 (lv_at hl 8 rfl) ?_
        have hPc := hP.sub (ws' := [(d3, .inr (3, [.int r_6.1, .int r_6.2.1, .int r_6.2.2.1, .int r_6.2.2.2.1, .int r_6.2.2.2.2.1, .int r_6.2.2.2.2.2]))]) [1] rfl
        have hDc := hD.sub (ws' := [(d3, .inr (3, [.int r_6.1, .int r_6.2.1, .int r_6.2.2.1, .int r_6.2.2.2.1, .int r_6.2.2.2.2.1, .int r_6.2.2.2.2.2]))]) [1] (by decide) rfl
        have hFc := va_free (wc := [(d3, .inr (3, [.int r_6.1, .int r_6.2.1, .int r_6.2.2.1, .int r_6.2.2.2.1, .int r_6.2.2.2.2.1, .int r_6.2.2.2.2.2]))]) hD hS hA [1] rfl
        refine va_callv (va_runVN (C := RX3) (As := [.int y3, .int y4, .int y5, .int y6]) (rest := []) ⟨hx, hb, hml, hown, hts⟩ (c_X3_tell l dC dI cB cC cI cJ H.size d3 r_6.1 r_6.2.1 r_6.2.2.1 r_6.2.2.2.1 r_6.2.2.2.2.1 r_6.2.2.2.2.2 y3 y4 y5 y6 ) ⟨va_cnB 4 hts gX8_put_X3_tell_n97 rfl rfl rfl (hG.nm (A := #[]) (w := .methodLinkNest RX8 97 yX3_tell "MappingDesk") (by decide +kernel)) (hts (.initialized RX3) (by decide +kernel)) (by decide +kernel) ⟨(Nat.le_of_ble_eq_true rfl), (Nat.le_of_ble_eq_true rfl)⟩, hts (.instanceMethod yX3_tell) (by decide +kernel), hts (.selects RX3 yX3_tell yX3_tell) (by decide +kernel)⟩ ⟨cP_blind, va_recv hG.1 hPc (ci := 3) (q0 := 0) rfl rfl, cP_pre hPc hG hDc⟩ rfl rfl hl.1 rfl (lv_room (Nat.le_of_ble_eq_true rfl)) dX8_put_48 ⟨Nat.le_of_ble_eq_true rfl, Nat.le_of_ble_eq_true rfl⟩) hS (fun q _ h => hFc q h) hFc (fun u t H1 locs ht hvm hw hB hz1 hk1 hS => ?_)
        obtain ⟨hP1, hD1⟩ := hB
        rw [ht] at hP1
        generalize hr_37 : fX3_tell r_6.1 r_6.2.1 r_6.2.2.1 r_6.2.2.2.1 r_6.2.2.2.2.1 r_6.2.2.2.2.2 y3 y4 y5 y6 = r_37 at hP1 hD1
        rw [bnd_eq hr_37] at hR
        obtain ⟨hP, hD⟩ := va_join (wr := [(h0, .inr (8, [.ref d0, .ref d1, .ref d2, .ref d3, .ref d4, .ref d5, .ref d6, .int lf])), (d4, .inr (4, [.ref z0, .ref z1, .ref z2, .ref z3, .ref z4, .ref z5, .int cz])), (z0, .inl (cI, 300, .inl u0)), (z1, .inl (cI, 300, .inl u1)), (z2, .inl (cI, 300, .inl u2)), (z3, .inl (cI, 300, .inl u3)), (z4, .inl (cI, 300, .inl u4)), (z5, .inl (cI, 300, .inl u5)), (d5, .inr (4, [.ref o0, .ref o1, .ref o2, .ref o3, .ref o4, .ref o5, .int co])), (o0, .inl (cI, 300, .inl v0)), (o1, .inl (cI, 300, .inl v1)), (o2, .inl (cI, 300, .inl v2)), (o3, .inl (cI, 300, .inl v3)), (o4, .inl (cI, 300, .inl v4)), (o5, .inl (cI, 300, .inl v5))]) (w1 := [(d3, .inr (3, [.int r_6.1, .int r_6.2.1, .int r_37.1, .int r_37.2.1, .int r_37.2.2.1, .int r_37.2.2.2]))]) hP hD [1] [0, 2, 3, 4, 5, 6, 7, 8, 9, 10, 11, 12, 13, 14, 15] rfl rfl (by decide) (by decide) hk1 hFc hP1 hD1
        generalize H1 = H at hP hS ⊢
        have hP := hP.sub (ws' := [(h0, .inr (8, [.ref d0, .ref d1, .ref d2, .ref d3, .ref d4, .ref d5, .ref d6, .int lf])), (d3, .inr (3, [.int r_6.1, .int r_6.2.1, .int r_37.1, .int r_37.2.1, .int r_37.2.2.1, .int r_37.2.2.2])), (d4, .inr (4, [.ref z0, .ref z1, .ref z2, .ref z3, .ref z4, .ref z5, .int cz])), (z0, .inl (cI, 300, .inl u0)), (z1, .inl (cI, 300, .inl u1)), (z2, .inl (cI, 300, .inl u2)), (z3, .inl (cI, 300, .inl u3)), (z4, .inl (cI, 300, .inl u4)), (z5, .inl (cI, 300, .inl u5)), (d5, .inr (4, [.ref o0, .ref o1, .ref o2, .ref o3, .ref o4, .ref o5, .int co])), (o0, .inl (cI, 300, .inl v0)), (o1, .inl (cI, 300, .inl v1)), (o2, .inl (cI, 300, .inl v2)), (o3, .inl (cI, 300, .inl v3)), (o4, .inl (cI, 300, .inl v4)), (o5, .inl (cI, 300, .inl v5))]) [0, 15, 1, 2, 3, 4, 5, 6, 7, 8, 9, 10, 11, 12, 13, 14] rfl
        have hD := hD.sub (ws' := [(h0, .inr (8, [.ref d0, .ref d1, .ref d2, .ref d3, .ref d4, .ref d5, .ref d6, .int lf])), (d3, .inr (3, [.int r_6.1, .int r_6.2.1, .int r_37.1, .int r_37.2.1, .int r_37.2.2.1, .int r_37.2.2.2])), (d4, .inr (4, [.ref z0, .ref z1, .ref z2, .ref z3, .ref z4, .ref z5, .int cz])), (z0, .inl (cI, 300, .inl u0)), (z1, .inl (cI, 300, .inl u1)), (z2, .inl (cI, 300, .inl u2)), (z3, .inl (cI, 300, .inl u3)), (z4, .inl (cI, 300, .inl u4)), (z5, .inl (cI, 300, .inl u5)), (d5, .inr (4, [.ref o0, .ref o1, .ref o2, .ref o3, .ref o4, .ref o5, .int co])), (o0, .inl (cI, 300, .inl v0)), (o1, .inl (cI, 300, .inl v1)), (o2, .inl (cI, 300, .inl v2)), (o3, .inl (cI, 300, .inl v3)), (o4, .inl (cI, 300, .inl v4)), (o5, .inl (cI, 300, .inl v5))]) [0, 15, 1, 2, 3, 4, 5, 6, 7, 8, 9, 10, 11, 12, 13, 14] (by decide) rfl
        refine lv_aload_n hx hb dX8_put_51 rfl (lv_at hl 1 rfl) ?_
        refine va_get (D := (dC, dI)) (ci := 8) (v := .ref d3) (C := RX8) (T := TX8) (N := 8) hx hb hts inc_X8_put_8 hown hG.1 hP 0 rfl rfl 3 (by decide) (hts (.fieldLink RX8 33 "MappingDesk" "given" "LMappingDesk$Segment;") (by decide +kernel)) (fun _ h9 => h9) rfl dX8_put_52 ?_
        have hPc := hP.sub (ws' := [(d3, .inr (3, [.int r_6.1, .int r_6.2.1, .int r_37.1, .int r_37.2.1, .int r_37.2.2.1, .int r_37.2.2.2]))]) [1] rfl
        have hDc := hD.sub (ws' := [(d3, .inr (3, [.int r_6.1, .int r_6.2.1, .int r_37.1, .int r_37.2.1, .int r_37.2.2.1, .int r_37.2.2.2]))]) [1] (by decide) rfl
        refine vp_callSi (va_Run.run (va_runVN (C := RX3) (As := []) (rest := []) ⟨hx, hb, hml, hown, hts⟩ (c_X3_isInBounds l dC dI cB cC cI cJ H.size d3 r_6.1 r_6.2.1 r_37.1 r_37.2.1 r_37.2.2.1 r_37.2.2.2 ) ⟨va_cnB 0 hts gX8_put_X3_isInBounds_n101 rfl rfl rfl (hG.nm (A := #[]) (w := .methodLinkNest RX8 101 yX3_isInBounds "MappingDesk") (by decide +kernel)) (hts (.initialized RX3) (by decide +kernel)) (by decide +kernel) ⟨(Nat.le_of_ble_eq_true rfl), (Nat.le_of_ble_eq_true rfl)⟩, hts (.instanceMethod yX3_isInBounds) (by decide +kernel), hts (.selects RX3 yX3_isInBounds yX3_isInBounds) (by decide +kernel)⟩ ⟨cP_blind, va_recv hG.1 hPc (ci := 3) (q0 := 0) rfl rfl, cP_pre hPc hG hDc⟩ rfl rfl hl.1 rfl (lv_room (Nat.le_of_ble_eq_true rfl)) dX8_put_55 ⟨Nat.le_of_ble_eq_true rfl, Nat.le_of_ble_eq_true rfl⟩)) (fun r_38 hr_38 => ?_)
        rw [bnd_eq hr_38.symm] at hR
        refine lv_if_ne (tgt := 63) hx hb dX8_put_58 (by decide) (fun c_39 => ?_) (fun c_39 => ?_)
        · rw [if_neg c_39] at hR
          refine lv_aload hx hb dX8_put_63 (lv_at hl 0 rfl) ?_
          refine lv_aload_n hx hb dX8_put_65 rfl (lv_at hl 1 rfl) ?_
          refine va_get (D := (dC, dI)) (ci := 8) (v := .ref d3) (C := RX8) (T := TX8) (N := 8) hx hb hts inc_X8_put_8 hown hG.1 hP 0 rfl rfl 3 (by decide) (hts (.fieldLink RX8 33 "MappingDesk" "given" "LMappingDesk$Segment;") (by decide +kernel)) (fun _ h9 => h9) rfl dX8_put_66 ?_
          have p_40 : 0 ≤ cz.toInt := by
            first | exact hz0 | assumption
          have p_41 : cz.toInt ≤ 300 := by
            first | exact hz1 | assumption
          have hPc := hP.sub (ws' := [(d4, .inr (4, [.ref z0, .ref z1, .ref z2, .ref z3, .ref z4, .ref z5, .int cz])), (z0, .inl (cI, 300, .inl u0)), (z1, .inl (cI, 300, .inl u1)), (z2, .inl (cI, 300, .inl u2)), (z3, .inl (cI, 300, .inl u3)), (z4, .inl (cI, 300, .inl u4)), (z5, .inl (cI, 300, .inl u5)), (d3, .inr (3, [.int r_6.1, .int r_6.2.1, .int r_37.1, .int r_37.2.1, .int r_37.2.2.1, .int r_37.2.2.2]))]) [2, 3, 4, 5, 6, 7, 8, 1] rfl
          have hDc := hD.sub (ws' := [(d4, .inr (4, [.ref z0, .ref z1, .ref z2, .ref z3, .ref z4, .ref z5, .int cz])), (z0, .inl (cI, 300, .inl u0)), (z1, .inl (cI, 300, .inl u1)), (z2, .inl (cI, 300, .inl u2)), (z3, .inl (cI, 300, .inl u3)), (z4, .inl (cI, 300, .inl u4)), (z5, .inl (cI, 300, .inl u5)), (d3, .inr (3, [.int r_6.1, .int r_6.2.1, .int r_37.1, .int r_37.2.1, .int r_37.2.2.1, .int r_37.2.2.2]))]) [2, 3, 4, 5, 6, 7, 8, 1] (by decide) rfl
          have hFc := va_free (wc := [(d4, .inr (4, [.ref z0, .ref z1, .ref z2, .ref z3, .ref z4, .ref z5, .int cz])), (z0, .inl (cI, 300, .inl u0)), (z1, .inl (cI, 300, .inl u1)), (z2, .inl (cI, 300, .inl u2)), (z3, .inl (cI, 300, .inl u3)), (z4, .inl (cI, 300, .inl u4)), (z5, .inl (cI, 300, .inl u5)), (d3, .inr (3, [.int r_6.1, .int r_6.2.1, .int r_37.1, .int r_37.2.1, .int r_37.2.2.1, .int r_37.2.2.2]))]) hD hS hA [2, 3, 4, 5, 6, 7, 8, 1] rfl
          refine va_callv (va_runVN (C := RX4) (As := [.ref d3]) (rest := []) ⟨hx, hb, hml, hown, hts⟩ (c_X4_insert l dC dI cB cC cI cJ H.size d4 d3 z0 z1 z2 z3 z4 z5 cz u0 u1 u2 u3 u4 u5 r_6.1 r_6.2.1 r_37.1 r_37.2.1 r_37.2.2.1 r_37.2.2.2 p_40 p_41) ⟨va_cnB 1 hts gX8_put_X4_insert_n104 rfl rfl rfl (hG.nm (A := #[]) (w := .methodLinkNest RX8 104 yX4_insert "MappingDesk") (by decide +kernel)) (hts (.initialized RX4) (by decide +kernel)) (by decide +kernel) ⟨(Nat.le_of_ble_eq_true rfl), (Nat.le_of_ble_eq_true rfl)⟩, hts (.instanceMethod yX4_insert) (by decide +kernel), hts (.selects RX4 yX4_insert yX4_insert) (by decide +kernel)⟩ ⟨cP_blind, va_recv hG.1 hPc (ci := 4) (q0 := 0) rfl rfl, cP_pre hPc hG hDc⟩ rfl rfl hl.1 rfl (lv_room (Nat.le_of_ble_eq_true rfl)) dX8_put_69 ⟨Nat.le_of_ble_eq_true rfl, Nat.le_of_ble_eq_true rfl⟩) hS (fun q _ h => hFc q h) hFc (fun u t H1 locs ht hvm hw hB hz1 hk1 hS => ?_)
          obtain ⟨hP1, hD1⟩ := hB
          rw [ht] at hP1
          generalize hr_42 : fX4_insert cz u0 u1 u2 u3 u4 u5 r_6.1 r_6.2.1 r_37.1 r_37.2.1 r_37.2.2.1 r_37.2.2.2 = r_42 at hP1 hD1 hw
          have er_42_0 := hw
          rw [bnd_eq hr_42] at hR
          obtain ⟨hP, hD⟩ := va_join (wr := [(h0, .inr (8, [.ref d0, .ref d1, .ref d2, .ref d3, .ref d4, .ref d5, .ref d6, .int lf])), (d5, .inr (4, [.ref o0, .ref o1, .ref o2, .ref o3, .ref o4, .ref o5, .int co])), (o0, .inl (cI, 300, .inl v0)), (o1, .inl (cI, 300, .inl v1)), (o2, .inl (cI, 300, .inl v2)), (o3, .inl (cI, 300, .inl v3)), (o4, .inl (cI, 300, .inl v4)), (o5, .inl (cI, 300, .inl v5))]) (w1 := [(d4, .inr (4, [.ref z0, .ref z1, .ref z2, .ref z3, .ref z4, .ref z5, .int r_42.1])), (z0, .inl (cI, 300, .inl r_42.2.1)), (z1, .inl (cI, 300, .inl r_42.2.2.1)), (z2, .inl (cI, 300, .inl r_42.2.2.2.1)), (z3, .inl (cI, 300, .inl r_42.2.2.2.2.1)), (z4, .inl (cI, 300, .inl r_42.2.2.2.2.2.1)), (z5, .inl (cI, 300, .inl r_42.2.2.2.2.2.2)), (d3, .inr (3, [.int r_6.1, .int r_6.2.1, .int r_37.1, .int r_37.2.1, .int r_37.2.2.1, .int r_37.2.2.2]))]) hP hD [2, 3, 4, 5, 6, 7, 8, 1] [0, 9, 10, 11, 12, 13, 14, 15] rfl rfl (by decide) (by decide) hk1 hFc hP1 hD1
          generalize H1 = H at hP hS ⊢
          have hP := hP.sub (ws' := [(h0, .inr (8, [.ref d0, .ref d1, .ref d2, .ref d3, .ref d4, .ref d5, .ref d6, .int lf])), (d3, .inr (3, [.int r_6.1, .int r_6.2.1, .int r_37.1, .int r_37.2.1, .int r_37.2.2.1, .int r_37.2.2.2])), (d4, .inr (4, [.ref z0, .ref z1, .ref z2, .ref z3, .ref z4, .ref z5, .int r_42.1])), (z0, .inl (cI, 300, .inl r_42.2.1)), (z1, .inl (cI, 300, .inl r_42.2.2.1)), (z2, .inl (cI, 300, .inl r_42.2.2.2.1)), (z3, .inl (cI, 300, .inl r_42.2.2.2.2.1)), (z4, .inl (cI, 300, .inl r_42.2.2.2.2.2.1)), (z5, .inl (cI, 300, .inl r_42.2.2.2.2.2.2)), (d5, .inr (4, [.ref o0, .ref o1, .ref o2, .ref o3, .ref o4, .ref o5, .int co])), (o0, .inl (cI, 300, .inl v0)), (o1, .inl (cI, 300, .inl v1)), (o2, .inl (cI, 300, .inl v2)), (o3, .inl (cI, 300, .inl v3)), (o4, .inl (cI, 300, .inl v4)), (o5, .inl (cI, 300, .inl v5))]) [0, 15, 8, 9, 10, 11, 12, 13, 14, 1, 2, 3, 4, 5, 6, 7] rfl
          have hD := hD.sub (ws' := [(h0, .inr (8, [.ref d0, .ref d1, .ref d2, .ref d3, .ref d4, .ref d5, .ref d6, .int lf])), (d3, .inr (3, [.int r_6.1, .int r_6.2.1, .int r_37.1, .int r_37.2.1, .int r_37.2.2.1, .int r_37.2.2.2])), (d4, .inr (4, [.ref z0, .ref z1, .ref z2, .ref z3, .ref z4, .ref z5, .int r_42.1])), (z0, .inl (cI, 300, .inl r_42.2.1)), (z1, .inl (cI, 300, .inl r_42.2.2.1)), (z2, .inl (cI, 300, .inl r_42.2.2.2.1)), (z3, .inl (cI, 300, .inl r_42.2.2.2.2.1)), (z4, .inl (cI, 300, .inl r_42.2.2.2.2.2.1)), (z5, .inl (cI, 300, .inl r_42.2.2.2.2.2.2)), (d5, .inr (4, [.ref o0, .ref o1, .ref o2, .ref o3, .ref o4, .ref o5, .int co])), (o0, .inl (cI, 300, .inl v0)), (o1, .inl (cI, 300, .inl v1)), (o2, .inl (cI, 300, .inl v2)), (o3, .inl (cI, 300, .inl v3)), (o4, .inl (cI, 300, .inl v4)), (o5, .inl (cI, 300, .inl v5))]) [0, 15, 8, 9, 10, 11, 12, 13, 14, 1, 2, 3, 4, 5, 6, 7] (by decide) rfl
          refine lv_aload hx hb dX8_put_72 (lv_at hl 0 rfl) ?_
          refine va_getN (D := (dC, dI)) (ci := 4) (v := .int r_42.1) (C := RX4) (T := TX4) (N := 7) hx hb hts inc_X8_put_4 hown hG.1 hP 2 rfl rfl 6 (by decide) (hG.nf (a := RX8) (i := 87) (b := "MappingDesk$Table") (n := "count") (d := "I") (t := "MappingDesk") (by decide +kernel)) (fun _ h9 => h9) rfl dX8_put_74 ?_
          have e_43 : 0 ≤ (r_42.1 : Int32).toInt ∧ (r_42.1 : Int32).toInt ≤ 300 := by
            have k_44 : (0 : Int32).toInt = 0 := by decide
            have q_45 := i_eq c_1
            have q_46 := i_eq c_5
            have q_47 := i_nlt c_7
            have q_48 := i_ne c_39
            try generalize Int32.toInt r_42.1 = z0 at *
            try generalize Int32.toInt r_6.1 = z1 at *
            try generalize Int32.toInt r_38 = z2 at *
            try generalize Int32.toInt r_4 = z3 at *
            try generalize Int32.toInt co = z4 at *
            try generalize Int32.toInt cz = z5 at *
            try generalize Int32.toInt y3 = z6 at *
            try generalize Int32.toInt (0 : Int32) = z7 at *
            try generalize Int32.toInt x = z8 at *
            omega
          have e_49 : 0 ≤ (co : Int32).toInt ∧ (co : Int32).toInt ≤ 300 := by
            have k_50 : (0 : Int32).toInt = 0 := by decide
            have q_51 := i_eq c_1
            have q_52 := i_eq c_5
            have q_53 := i_nlt c_7
            have q_54 := i_ne c_39
            try generalize Int32.toInt r_42.1 = z0 at *
            try generalize Int32.toInt r_6.1 = z1 at *
            try generalize Int32.toInt r_38 = z2 at *
            try generalize Int32.toInt r_4 = z3 at *
            try generalize Int32.toInt co = z4 at *
            try generalize Int32.toInt cz = z5 at *
            try generalize Int32.toInt y3 = z6 at *
            try generalize Int32.toInt (0 : Int32) = z7 at *
            try generalize Int32.toInt x = z8 at *
            omega
          subst hR
          exact W.iret (v := r_42.1) hx hb hr (fun t ht hW => ⟨⟨r_42.1, (), rfl, ⟨rfl, e_43, e_49⟩, by rw [ht]; exact hP, hD⟩, hS.F ht⟩) hS.2.2 dX8_put_77
        · rw [if_pos c_39] at hR
          refine lv_iconst (v := (-1)) hx hb dX8_put_61 (by decide) ?_
          have e_55 : 0 ≤ (cz : Int32).toInt ∧ (cz : Int32).toInt ≤ 300 := by
            have k_56 : (0 : Int32).toInt = 0 := by decide
            have q_57 := i_eq c_1
            have q_58 := i_eq c_5
            have q_59 := i_nlt c_7
            have q_60 := i_eq c_39
            try generalize Int32.toInt r_6.1 = z0 at *
            try generalize Int32.toInt r_38 = z1 at *
            try generalize Int32.toInt r_4 = z2 at *
            try generalize Int32.toInt co = z3 at *
            try generalize Int32.toInt cz = z4 at *
            try generalize Int32.toInt y3 = z5 at *
            try generalize Int32.toInt (0 : Int32) = z6 at *
            try generalize Int32.toInt x = z7 at *
            omega
          have e_61 : 0 ≤ (co : Int32).toInt ∧ (co : Int32).toInt ≤ 300 := by
            have k_62 : (0 : Int32).toInt = 0 := by decide
            have q_63 := i_eq c_1
            have q_64 := i_eq c_5
            have q_65 := i_nlt c_7
            have q_66 := i_eq c_39
            try generalize Int32.toInt r_6.1 = z0 at *
            try generalize Int32.toInt r_38 = z1 at *
            try generalize Int32.toInt r_4 = z2 at *
            try generalize Int32.toInt co = z3 at *
            try generalize Int32.toInt cz = z4 at *
            try generalize Int32.toInt y3 = z5 at *
            try generalize Int32.toInt (0 : Int32) = z6 at *
            try generalize Int32.toInt x = z7 at *
            omega
          subst hR
          exact W.iret (v := (-1)) hx hb hr (fun t ht hW => ⟨⟨(-1), (), rfl, ⟨rfl, e_55, e_61⟩, by rw [ht]; exact hP, hD⟩, hS.F ht⟩) hS.2.2 dX8_put_62
    · rw [if_neg c_5] at hR
      refine lv_iconst (v := (-1)) hx hb dX8_put_20 (by decide) ?_
      have e_67 : 0 ≤ (cz : Int32).toInt ∧ (cz : Int32).toInt ≤ 300 := by
        have k_68 : (0 : Int32).toInt = 0 := by decide
        have q_69 := i_eq c_1
        have q_70 := i_ne c_5
        try generalize Int32.toInt r_4 = z0 at *
        try generalize Int32.toInt co = z1 at *
        try generalize Int32.toInt cz = z2 at *
        try generalize Int32.toInt (0 : Int32) = z3 at *
        try generalize Int32.toInt x = z4 at *
        omega
      have e_71 : 0 ≤ (co : Int32).toInt ∧ (co : Int32).toInt ≤ 300 := by
        have k_72 : (0 : Int32).toInt = 0 := by decide
        have q_73 := i_eq c_1
        have q_74 := i_ne c_5
        try generalize Int32.toInt r_4 = z0 at *
        try generalize Int32.toInt co = z1 at *
        try generalize Int32.toInt cz = z2 at *
        try generalize Int32.toInt (0 : Int32) = z3 at *
        try generalize Int32.toInt x = z4 at *
        omega
      subst hR
      exact W.iret (v := (-1)) hx hb hr (fun t ht hW => ⟨⟨(-1), (), rfl, ⟨rfl, e_67, e_71⟩, by rw [ht]; exact hP, hD⟩, hS.F ht⟩) hS.2.2 dX8_put_21
  · rw [if_neg c_1] at hR
    by_cases c_75 : x = 1
    · rw [if_pos c_75] at hR
      have p_76 : ¬ x = 0 := by
        assumption
      have p_77 : x = 1 := by
        assumption
      have hPc := hP.sub (ws' := [(h0, .inr (8, [.ref d0, .ref d1, .ref d2, .ref d3, .ref d4, .ref d5, .ref d6, .int lf]))]) [0] rfl
      have hDc := hD.sub (ws' := [(h0, .inr (8, [.ref d0, .ref d1, .ref d2, .ref d3, .ref d4, .ref d5, .ref d6, .int lf]))]) [0] (by decide) rfl
      refine va_csr (va_Run.run (va_runV (As := [.int x]) (rest := []) ⟨hx, hb, hml, hown, hts⟩ (c_X8_tableOf_1 l dC dI cB cC cI cJ H.size h0 d0 d1 d2 d3 d4 d5 d6 lf x p_76 p_77) (cwV 1 hts gX8_put_X8_tableOf rfl rfl rfl (by decide +kernel) ⟨(Nat.le_of_ble_eq_true rfl), (Nat.le_of_ble_eq_true rfl)⟩) ⟨cP_blind, va_recv hG.1 hPc (ci := 8) (q0 := 0) rfl rfl, cP_pre hPc hG hDc⟩ rfl rfl hl.1 rfl (lv_room (Nat.le_of_ble_eq_true rfl)) dX8_put_2 ⟨Nat.le_of_ble_eq_true rfl, Nat.le_of_ble_eq_true rfl⟩)) (fun r_78 hr_78 => ?_)
      show W _ _ _ _ _ _ _ _ _ _ _ _ _ _ _ (F0 m 5 ls (.ref d5 :: []))
      refine lv_astore (lv' := [(8, .ref d5), (0, .ref h0), (1, .int x), (2, .int y1), (3, .int y2), (4, .int y3), (5, .int y4), (6, .int y5), (7, .int y6)]) hx hb dX8_put_5 hl (by decide) rfl (fun ls hl => ?_)
      refine lv_aload hx hb dX8_put_7 (lv_at hl 0 rfl) ?_
      refine lv_ifnull hx hb dX8_put_9 ?_
      refine lv_aload hx hb dX8_put_12 (lv_at hl 0 rfl) ?_
      have hPc := hP.sub (ws' := [(d5, .inr (4, [.ref o0, .ref o1, .ref o2, .ref o3, .ref o4, .ref o5, .int co]))]) [9] rfl
      have hDc := hD.sub (ws' := [(d5, .inr (4, [.ref o0, .ref o1, .ref o2, .ref o3, .ref o4, .ref o5, .int co]))]) [9] (by decide) rfl
      refine vp_callSi (va_Run.run (va_runVN (C := RX4) (As := []) (rest := []) ⟨hx, hb, hml, hown, hts⟩ (c_X4_isFull l dC dI cB cC cI cJ H.size d5 o0 o1 o2 o3 o4 o5 co ) ⟨va_cnB 0 hts gX8_put_X4_isFull_n90 rfl rfl rfl (hG.nm (A := #[]) (w := .methodLinkNest RX8 90 yX4_isFull "MappingDesk") (by decide +kernel)) (hts (.initialized RX4) (by decide +kernel)) (by decide +kernel) ⟨(Nat.le_of_ble_eq_true rfl), (Nat.le_of_ble_eq_true rfl)⟩, hts (.instanceMethod yX4_isFull) (by decide +kernel), hts (.selects RX4 yX4_isFull yX4_isFull) (by decide +kernel)⟩ ⟨cP_blind, va_recv hG.1 hPc (ci := 4) (q0 := 0) rfl rfl, cP_pre hPc hG hDc⟩ rfl rfl hl.1 rfl (lv_room (Nat.le_of_ble_eq_true rfl)) dX8_put_14 ⟨Nat.le_of_ble_eq_true rfl, Nat.le_of_ble_eq_true rfl⟩)) (fun r_79 hr_79 => ?_)
      rw [bnd_eq hr_79.symm] at hR
      refine lv_if_eq (tgt := 22) hx hb dX8_put_17 (by decide) (fun c_80 => ?_) (fun c_80 => ?_)
      · rw [if_pos c_80] at hR
        refine lv_aload_n hx hb dX8_put_22 rfl (lv_at hl 1 rfl) ?_
        refine va_get (D := (dC, dI)) (ci := 8) (v := .ref d3) (C := RX8) (T := TX8) (N := 8) hx hb hts inc_X8_put_8 hown hG.1 hP 0 rfl rfl 3 (by decide) (hts (.fieldLink RX8 33 "MappingDesk" "given" "LMappingDesk$Segment;") (by decide +kernel)) (fun _ h9 => h9) rfl dX8_put_23 ?_
        refine lv_iload_n hx hb dX8_put_26 rfl (lv_at hl 3 rfl) ?_
        refine lv_iload_n hx hb dX8_put_27 rfl (lv_at hl 4 rfl) ?_
        have hPc := hP.sub (ws' := [(d3, .inr (3, [.int g0, .int g1, .int g2, .int g3, .int g4, .int g5]))]) [1] rfl
        have hDc := hD.sub (ws' := [(d3, .inr (3, [.int g0, .int g1, .int g2, .int g3, .int g4, .int g5]))]) [1] (by decide) rfl
        have hFc := va_free (wc := [(d3, .inr (3, [.int g0, .int g1, .int g2, .int g3, .int g4, .int g5]))]) hD hS hA [1] rfl
        refine va_callv (va_runVN (C := RX3) (As := [.int y1, .int y2]) (rest := []) ⟨hx, hb, hml, hown, hts⟩ (c_X3_standAt l dC dI cB cC cI cJ H.size d3 g0 g1 g2 g3 g4 g5 y1 y2 ) ⟨va_cnB 2 hts gX8_put_X3_standAt_n93 rfl rfl rfl (hG.nm (A := #[]) (w := .methodLinkNest RX8 93 yX3_standAt "MappingDesk") (by decide +kernel)) (hts (.initialized RX3) (by decide +kernel)) (by decide +kernel) ⟨(Nat.le_of_ble_eq_true rfl), (Nat.le_of_ble_eq_true rfl)⟩, hts (.instanceMethod yX3_standAt) (by decide +kernel), hts (.selects RX3 yX3_standAt yX3_standAt) (by decide +kernel)⟩ ⟨cP_blind, va_recv hG.1 hPc (ci := 3) (q0 := 0) rfl rfl, cP_pre hPc hG hDc⟩ rfl rfl hl.1 rfl (lv_room (Nat.le_of_ble_eq_true rfl)) dX8_put_28 ⟨Nat.le_of_ble_eq_true rfl, Nat.le_of_ble_eq_true rfl⟩) hS (fun q _ h => hFc q h) hFc (fun u t H1 locs ht hvm hw hB hz1 hk1 hS => ?_)
        obtain ⟨hP1, hD1⟩ := hB
        rw [ht] at hP1
        generalize hr_81 : fX3_standAt g0 g1 g2 g3 g4 g5 y1 y2 = r_81 at hP1 hD1 hw
        have er_81_0 := hw
        rw [bnd_eq hr_81] at hR
        obtain ⟨hP, hD⟩ := va_join (wr := [(h0, .inr (8, [.ref d0, .ref d1, .ref d2, .ref d3, .ref d4, .ref d5, .ref d6, .int lf])), (d4, .inr (4, [.ref z0, .ref z1, .ref z2, .ref z3, .ref z4, .ref z5, .int cz])), (z0, .inl (cI, 300, .inl u0)), (z1, .inl (cI, 300, .inl u1)), (z2, .inl (cI, 300, .inl u2)), (z3, .inl (cI, 300, .inl u3)), (z4, .inl (cI, 300, .inl u4)), (z5, .inl (cI, 300, .inl u5)), (d5, .inr (4, [.ref o0, .ref o1, .ref o2, .ref o3, .ref o4, .ref o5, .int co])), (o0, .inl (cI, 300, .inl v0)), (o1, .inl (cI, 300, .inl v1)), (o2, .inl (cI, 300, .inl v2)), (o3, .inl (cI, 300, .inl v3)), (o4, .inl (cI, 300, .inl v4)), (o5, .inl (cI, 300, .inl v5))]) (w1 := [(d3, .inr (3, [.int r_81.1, .int r_81.2.1, .int r_81.2.2.1, .int r_81.2.2.2.1, .int r_81.2.2.2.2.1, .int r_81.2.2.2.2.2]))]) hP hD [1] [0, 2, 3, 4, 5, 6, 7, 8, 9, 10, 11, 12, 13, 14, 15] rfl rfl (by decide) (by decide) hk1 hFc hP1 hD1
        generalize H1 = H at hP hS ⊢
        have hP := hP.sub (ws' := [(h0, .inr (8, [.ref d0, .ref d1, .ref d2, .ref d3, .ref d4, .ref d5, .ref d6, .int lf])), (d3, .inr (3, [.int r_81.1, .int r_81.2.1, .int r_81.2.2.1, .int r_81.2.2.2.1, .int r_81.2.2.2.2.1, .int r_81.2.2.2.2.2])), (d4, .inr (4, [.ref z0, .ref z1, .ref z2, .ref z3, .ref z4, .ref z5, .int cz])), (z0, .inl (cI, 300, .inl u0)), (z1, .inl (cI, 300, .inl u1)), (z2, .inl (cI, 300, .inl u2)), (z3, .inl (cI, 300, .inl u3)), (z4, .inl (cI, 300, .inl u4)), (z5, .inl (cI, 300, .inl u5)), (d5, .inr (4, [.ref o0, .ref o1, .ref o2, .ref o3, .ref o4, .ref o5, .int co])), (o0, .inl (cI, 300, .inl v0)), (o1, .inl (cI, 300, .inl v1)), (o2, .inl (cI, 300, .inl v2)), (o3, .inl (cI, 300, .inl v3)), (o4, .inl (cI, 300, .inl v4)), (o5, .inl (cI, 300, .inl v5))]) [0, 15, 1, 2, 3, 4, 5, 6, 7, 8, 9, 10, 11, 12, 13, 14] rfl
        have hD := hD.sub (ws' := [(h0, .inr (8, [.ref d0, .ref d1, .ref d2, .ref d3, .ref d4, .ref d5, .ref d6, .int lf])), (d3, .inr (3, [.int r_81.1, .int r_81.2.1, .int r_81.2.2.1, .int r_81.2.2.2.1, .int r_81.2.2.2.2.1, .int r_81.2.2.2.2.2])), (d4, .inr (4, [.ref z0, .ref z1, .ref z2, .ref z3, .ref z4, .ref z5, .int cz])), (z0, .inl (cI, 300, .inl u0)), (z1, .inl (cI, 300, .inl u1)), (z2, .inl (cI, 300, .inl u2)), (z3, .inl (cI, 300, .inl u3)), (z4, .inl (cI, 300, .inl u4)), (z5, .inl (cI, 300, .inl u5)), (d5, .inr (4, [.ref o0, .ref o1, .ref o2, .ref o3, .ref o4, .ref o5, .int co])), (o0, .inl (cI, 300, .inl v0)), (o1, .inl (cI, 300, .inl v1)), (o2, .inl (cI, 300, .inl v2)), (o3, .inl (cI, 300, .inl v3)), (o4, .inl (cI, 300, .inl v4)), (o5, .inl (cI, 300, .inl v5))]) [0, 15, 1, 2, 3, 4, 5, 6, 7, 8, 9, 10, 11, 12, 13, 14] (by decide) rfl
        refine lv_iload hx hb dX8_put_31 (lv_at hl 5 rfl) ?_
        refine lv_if_lt (tgt := 51) hx hb dX8_put_33 (by decide) (fun c_82 => ?_) (fun c_82 => ?_)
        · rw [if_pos c_82] at hR
          refine lv_aload_n hx hb dX8_put_51 rfl (lv_at hl 1 rfl) ?_
          refine va_get (D := (dC, dI)) (ci := 8) (v := .ref d3) (C := RX8) (T := TX8) (N := 8) hx hb hts inc_X8_put_8 hown hG.1 hP 0 rfl rfl 3 (by decide) (hts (.fieldLink RX8 33 "MappingDesk" "given" "LMappingDesk$Segment;") (by decide +kernel)) (fun _ h9 => h9) rfl dX8_put_52 ?_
          have hPc := hP.sub (ws' := [(d3, .inr (3, [.int r_81.1, .int r_81.2.1, .int r_81.2.2.1, .int r_81.2.2.2.1, .int r_81.2.2.2.2.1, .int r_81.2.2.2.2.2]))]) [1] rfl
          have hDc := hD.sub (ws' := [(d3, .inr (3, [.int r_81.1, .int r_81.2.1, .int r_81.2.2.1, .int r_81.2.2.2.1, .int r_81.2.2.2.2.1, .int r_81.2.2.2.2.2]))]) [1] (by decide) rfl
          refine vp_callSi (va_Run.run (va_runVN (C := RX3) (As := []) (rest := []) ⟨hx, hb, hml, hown, hts⟩ (c_X3_isInBounds l dC dI cB cC cI cJ H.size d3 r_81.1 r_81.2.1 r_81.2.2.1 r_81.2.2.2.1 r_81.2.2.2.2.1 r_81.2.2.2.2.2 ) ⟨va_cnB 0 hts gX8_put_X3_isInBounds_n101 rfl rfl rfl (hG.nm (A := #[]) (w := .methodLinkNest RX8 101 yX3_isInBounds "MappingDesk") (by decide +kernel)) (hts (.initialized RX3) (by decide +kernel)) (by decide +kernel) ⟨(Nat.le_of_ble_eq_true rfl), (Nat.le_of_ble_eq_true rfl)⟩, hts (.instanceMethod yX3_isInBounds) (by decide +kernel), hts (.selects RX3 yX3_isInBounds yX3_isInBounds) (by decide +kernel)⟩ ⟨cP_blind, va_recv hG.1 hPc (ci := 3) (q0 := 0) rfl rfl, cP_pre hPc hG hDc⟩ rfl rfl hl.1 rfl (lv_room (Nat.le_of_ble_eq_true rfl)) dX8_put_55 ⟨Nat.le_of_ble_eq_true rfl, Nat.le_of_ble_eq_true rfl⟩)) (fun r_83 hr_83 => ?_)
          rw [bnd_eq hr_83.symm] at hR
          refine lv_if_ne (tgt := 63) hx hb dX8_put_58 (by decide) (fun c_84 => ?_) (fun c_84 => ?_)
          · rw [if_neg c_84] at hR
            refine lv_aload hx hb dX8_put_63 (lv_at hl 0 rfl) ?_
            refine lv_aload_n hx hb dX8_put_65 rfl (lv_at hl 1 rfl) ?_
            refine va_get (D := (dC, dI)) (ci := 8) (v := .ref d3) (C := RX8) (T := TX8) (N := 8) hx hb hts inc_X8_put_8 hown hG.1 hP 0 rfl rfl 3 (by decide) (hts (.fieldLink RX8 33 "MappingDesk" "given" "LMappingDesk$Segment;") (by decide +kernel)) (fun _ h9 => h9) rfl dX8_put_66 ?_
            have p_85 : 0 ≤ co.toInt := by
              first | exact ho0 | assumption
            have p_86 : co.toInt ≤ 300 := by
              first | exact ho1 | assumption
            have hPc := hP.sub (ws' := [(d5, .inr (4, [.ref o0, .ref o1, .ref o2, .ref o3, .ref o4, .ref o5, .int co])), (o0, .inl (cI, 300, .inl v0)), (o1, .inl (cI, 300, .inl v1)), (o2, .inl (cI, 300, .inl v2)), (o3, .inl (cI, 300, .inl v3)), (o4, .inl (cI, 300, .inl v4)), (o5, .inl (cI, 300, .inl v5)), (d3, .inr (3, [.int r_81.1, .int r_81.2.1, .int r_81.2.2.1, .int r_81.2.2.2.1, .int r_81.2.2.2.2.1, .int r_81.2.2.2.2.2]))]) [9, 10, 11, 12, 13, 14, 15, 1] rfl
            have hDc := hD.sub (ws' := [(d5, .inr (4, [.ref o0, .ref o1, .ref o2, .ref o3, .ref o4, .ref o5, .int co])), (o0, .inl (cI, 300, .inl v0)), (o1, .inl (cI, 300, .inl v1)), (o2, .inl (cI, 300, .inl v2)), (o3, .inl (cI, 300, .inl v3)), (o4, .inl (cI, 300, .inl v4)), (o5, .inl (cI, 300, .inl v5)), (d3, .inr (3, [.int r_81.1, .int r_81.2.1, .int r_81.2.2.1, .int r_81.2.2.2.1, .int r_81.2.2.2.2.1, .int r_81.2.2.2.2.2]))]) [9, 10, 11, 12, 13, 14, 15, 1] (by decide) rfl
            have hFc := va_free (wc := [(d5, .inr (4, [.ref o0, .ref o1, .ref o2, .ref o3, .ref o4, .ref o5, .int co])), (o0, .inl (cI, 300, .inl v0)), (o1, .inl (cI, 300, .inl v1)), (o2, .inl (cI, 300, .inl v2)), (o3, .inl (cI, 300, .inl v3)), (o4, .inl (cI, 300, .inl v4)), (o5, .inl (cI, 300, .inl v5)), (d3, .inr (3, [.int r_81.1, .int r_81.2.1, .int r_81.2.2.1, .int r_81.2.2.2.1, .int r_81.2.2.2.2.1, .int r_81.2.2.2.2.2]))]) hD hS hA [9, 10, 11, 12, 13, 14, 15, 1] rfl
            refine va_callv (va_runVN (C := RX4) (As := [.ref d3]) (rest := []) ⟨hx, hb, hml, hown, hts⟩ (c_X4_insert l dC dI cB cC cI cJ H.size d5 d3 o0 o1 o2 o3 o4 o5 co v0 v1 v2 v3 v4 v5 r_81.1 r_81.2.1 r_81.2.2.1 r_81.2.2.2.1 r_81.2.2.2.2.1 r_81.2.2.2.2.2 p_85 p_86) ⟨va_cnB 1 hts gX8_put_X4_insert_n104 rfl rfl rfl (hG.nm (A := #[]) (w := .methodLinkNest RX8 104 yX4_insert "MappingDesk") (by decide +kernel)) (hts (.initialized RX4) (by decide +kernel)) (by decide +kernel) ⟨(Nat.le_of_ble_eq_true rfl), (Nat.le_of_ble_eq_true rfl)⟩, hts (.instanceMethod yX4_insert) (by decide +kernel), hts (.selects RX4 yX4_insert yX4_insert) (by decide +kernel)⟩ ⟨cP_blind, va_recv hG.1 hPc (ci := 4) (q0 := 0) rfl rfl, cP_pre hPc hG hDc⟩ rfl rfl hl.1 rfl (lv_room (Nat.le_of_ble_eq_true rfl)) dX8_put_69 ⟨Nat.le_of_ble_eq_true rfl, Nat.le_of_ble_eq_true rfl⟩) hS (fun q _ h => hFc q h) hFc (fun u t H1 locs ht hvm hw hB hz1 hk1 hS => ?_)
            obtain ⟨hP1, hD1⟩ := hB
            rw [ht] at hP1
            generalize hr_87 : fX4_insert co v0 v1 v2 v3 v4 v5 r_81.1 r_81.2.1 r_81.2.2.1 r_81.2.2.2.1 r_81.2.2.2.2.1 r_81.2.2.2.2.2 = r_87 at hP1 hD1 hw
            have er_87_0 := hw
            rw [bnd_eq hr_87] at hR
            obtain ⟨hP, hD⟩ := va_join (wr := [(h0, .inr (8, [.ref d0, .ref d1, .ref d2, .ref d3, .ref d4, .ref d5, .ref d6, .int lf])), (d4, .inr (4, [.ref z0, .ref z1, .ref z2, .ref z3, .ref z4, .ref z5, .int cz])), (z0, .inl (cI, 300, .inl u0)), (z1, .inl (cI, 300, .inl u1)), (z2, .inl (cI, 300, .inl u2)), (z3, .inl (cI, 300, .inl u3)), (z4, .inl (cI, 300, .inl u4)), (z5, .inl (cI, 300, .inl u5))]) (w1 := [(d5, .inr (4, [.ref o0, .ref o1, .ref o2, .ref o3, .ref o4, .ref o5, .int r_87.1])), (o0, .inl (cI, 300, .inl r_87.2.1)), (o1, .inl (cI, 300, .inl r_87.2.2.1)), (o2, .inl (cI, 300, .inl r_87.2.2.2.1)), (o3, .inl (cI, 300, .inl r_87.2.2.2.2.1)), (o4, .inl (cI, 300, .inl r_87.2.2.2.2.2.1)), (o5, .inl (cI, 300, .inl r_87.2.2.2.2.2.2)), (d3, .inr (3, [.int r_81.1, .int r_81.2.1, .int r_81.2.2.1, .int r_81.2.2.2.1, .int r_81.2.2.2.2.1, .int r_81.2.2.2.2.2]))]) hP hD [9, 10, 11, 12, 13, 14, 15, 1] [0, 2, 3, 4, 5, 6, 7, 8] rfl rfl (by decide) (by decide) hk1 hFc hP1 hD1
            generalize H1 = H at hP hS ⊢
            have hP := hP.sub (ws' := [(h0, .inr (8, [.ref d0, .ref d1, .ref d2, .ref d3, .ref d4, .ref d5, .ref d6, .int lf])), (d3, .inr (3, [.int r_81.1, .int r_81.2.1, .int r_81.2.2.1, .int r_81.2.2.2.1, .int r_81.2.2.2.2.1, .int r_81.2.2.2.2.2])), (d4, .inr (4, [.ref z0, .ref z1, .ref z2, .ref z3, .ref z4, .ref z5, .int cz])), (z0, .inl (cI, 300, .inl u0)), (z1, .inl (cI, 300, .inl u1)), (z2, .inl (cI, 300, .inl u2)), (z3, .inl (cI, 300, .inl u3)), (z4, .inl (cI, 300, .inl u4)), (z5, .inl (cI, 300, .inl u5)), (d5, .inr (4, [.ref o0, .ref o1, .ref o2, .ref o3, .ref o4, .ref o5, .int r_87.1])), (o0, .inl (cI, 300, .inl r_87.2.1)), (o1, .inl (cI, 300, .inl r_87.2.2.1)), (o2, .inl (cI, 300, .inl r_87.2.2.2.1)), (o3, .inl (cI, 300, .inl r_87.2.2.2.2.1)), (o4, .inl (cI, 300, .inl r_87.2.2.2.2.2.1)), (o5, .inl (cI, 300, .inl r_87.2.2.2.2.2.2))]) [0, 15, 1, 2, 3, 4, 5, 6, 7, 8, 9, 10, 11, 12, 13, 14] rfl
            have hD := hD.sub (ws' := [(h0, .inr (8, [.ref d0, .ref d1, .ref d2, .ref d3, .ref d4, .ref d5, .ref d6, .int lf])), (d3, .inr (3, [.int r_81.1, .int r_81.2.1, .int r_81.2.2.1, .int r_81.2.2.2.1, .int r_81.2.2.2.2.1, .int r_81.2.2.2.2.2])), (d4, .inr (4, [.ref z0, .ref z1, .ref z2, .ref z3, .ref z4, .ref z5, .int cz])), (z0, .inl (cI, 300, .inl u0)), (z1, .inl (cI, 300, .inl u1)), (z2, .inl (cI, 300, .inl u2)), (z3, .inl (cI, 300, .inl u3)), (z4, .inl (cI, 300, .inl u4)), (z5, .inl (cI, 300, .inl u5)), (d5, .inr (4, [.ref o0, .ref o1, .ref o2, .ref o3, .ref o4, .ref o5, .int r_87.1])), (o0, .inl (cI, 300, .inl r_87.2.1)), (o1, .inl (cI, 300, .inl r_87.2.2.1)), (o2, .inl (cI, 300, .inl r_87.2.2.2.1)), (o3, .inl (cI, 300, .inl r_87.2.2.2.2.1)), (o4, .inl (cI, 300, .inl r_87.2.2.2.2.2.1)), (o5, .inl (cI, 300, .inl r_87.2.2.2.2.2.2))]) [0, 15, 1, 2, 3, 4, 5, 6, 7, 8, 9, 10, 11, 12, 13, 14] (by decide) rfl
            refine lv_aload hx hb dX8_put_72 (lv_at hl 0 rfl) ?_
            refine va_getN (D := (dC, dI)) (ci := 4) (v := .int r_87.1) (C := RX4) (T := TX4) (N := 7) hx hb hts inc_X8_put_4 hown hG.1 hP 9 rfl rfl 6 (by decide) (hG.nf (a := RX8) (i := 87) (b := "MappingDesk$Table") (n := "count") (d := "I") (t := "MappingDesk") (by decide +kernel)) (fun _ h9 => h9) rfl dX8_put_74 ?_
            have e_88 : 0 ≤ (cz : Int32).toInt ∧ (cz : Int32).toInt ≤ 300 := by
              have k_89 : (0 : Int32).toInt = 0 := by decide
              have q_90 := i_ne c_1
              have k_91 : (1 : Int32).toInt = 1 := by decide
              have q_92 := i_eq c_75
              have q_93 := i_eq c_80
              have q_94 := i_lt c_82
              have q_95 := i_ne c_84
              try generalize Int32.toInt r_81.1 = z0 at *
              try generalize Int32.toInt r_87.1 = z1 at *
              try generalize Int32.toInt r_79 = z2 at *
              try generalize Int32.toInt r_83 = z3 at *
              try generalize Int32.toInt co = z4 at *
              try generalize Int32.toInt cz = z5 at *
              try generalize Int32.toInt y3 = z6 at *
              try generalize Int32.toInt (0 : Int32) = z7 at *
              try generalize Int32.toInt (1 : Int32) = z8 at *
              try generalize Int32.toInt x = z9 at *
              omega
            have e_96 : 0 ≤ (r_87.1 : Int32).toInt ∧ (r_87.1 : Int32).toInt ≤ 300 := by
              have k_97 : (0 : Int32).toInt = 0 := by decide
              have q_98 := i_ne c_1
              have k_99 : (1 : Int32).toInt = 1 := by decide
              have q_100 := i_eq c_75
              have q_101 := i_eq c_80
              have q_102 := i_lt c_82
              have q_103 := i_ne c_84
              try generalize Int32.toInt r_81.1 = z0 at *
              try generalize Int32.toInt r_87.1 = z1 at *
              try generalize Int32.toInt r_79 = z2 at *
              try generalize Int32.toInt r_83 = z3 at *
              try generalize Int32.toInt co = z4 at *
              try generalize Int32.toInt cz = z5 at *
              try generalize Int32.toInt y3 = z6 at *
              try generalize Int32.toInt (0 : Int32) = z7 at *
              try generalize Int32.toInt (1 : Int32) = z8 at *
              try generalize Int32.toInt x = z9 at *
              omega
            subst hR
            exact W.iret (v := r_87.1) hx hb hr (fun t ht hW => ⟨⟨r_87.1, (), rfl, ⟨rfl, e_88, e_96⟩, by rw [ht]; exact hP, hD⟩, hS.F ht⟩) hS.2.2 dX8_put_77
          · rw [if_pos c_84] at hR
            refine lv_iconst (v := (-1)) hx hb dX8_put_61 (by decide) ?_
            have e_104 : 0 ≤ (cz : Int32).toInt ∧ (cz : Int32).toInt ≤ 300 := by
              have k_105 : (0 : Int32).toInt = 0 := by decide
              have q_106 := i_ne c_1
              have k_107 : (1 : Int32).toInt = 1 := by decide
              have q_108 := i_eq c_75
              have q_109 := i_eq c_80
              have q_110 := i_lt c_82
              have q_111 := i_eq c_84
              try generalize Int32.toInt r_81.1 = z0 at *
              try generalize Int32.toInt r_79 = z1 at *
              try generalize Int32.toInt r_83 = z2 at *
              try generalize Int32.toInt co = z3 at *
              try generalize Int32.toInt cz = z4 at *
              try generalize Int32.toInt y3 = z5 at *
              try generalize Int32.toInt (0 : Int32) = z6 at *
              try generalize Int32.toInt (1 : Int32) = z7 at *
              try generalize Int32.toInt x = z8 at *
              omega
            have e_112 : 0 ≤ (co : Int32).toInt ∧ (co : Int32).toInt ≤ 300 := by
              have k_113 : (0 : Int32).toInt = 0 := by decide
              have q_114 := i_ne c_1
              have k_115 : (1 : Int32).toInt = 1 := by decide
              have q_116 := i_eq c_75
              have q_117 := i_eq c_80
              have q_118 := i_lt c_82
              have q_119 := i_eq c_84
              try generalize Int32.toInt r_81.1 = z0 at *
              try generalize Int32.toInt r_79 = z1 at *
              try generalize Int32.toInt r_83 = z2 at *
              try generalize Int32.toInt co = z3 at *
              try generalize Int32.toInt cz = z4 at *
              try generalize Int32.toInt y3 = z5 at *
              try generalize Int32.toInt (0 : Int32) = z6 at *
              try generalize Int32.toInt (1 : Int32) = z7 at *
              try generalize Int32.toInt x = z8 at *
              omega
            subst hR
            exact W.iret (v := (-1)) hx hb hr (fun t ht hW => ⟨⟨(-1), (), rfl, ⟨rfl, e_104, e_112⟩, by rw [ht]; exact hP, hD⟩, hS.F ht⟩) hS.2.2 dX8_put_62
        · rw [if_neg c_82] at hR
          refine lv_aload_n hx hb dX8_put_36 rfl (lv_at hl 1 rfl) ?_
          refine va_get (D := (dC, dI)) (ci := 8) (v := .ref d3) (C := RX8) (T := TX8) (N := 8) hx hb hts inc_X8_put_8 hown hG.1 hP 0 rfl rfl 3 (by decide) (hts (.fieldLink RX8 33 "MappingDesk" "given" "LMappingDesk$Segment;") (by decide +kernel)) (fun _ h9 => h9) rfl dX8_put_37 ?_
          refine lv_iload hx hb dX8_put_40 (lv_at hl 5 rfl) ?_
          refine lv_iload hx hb dX8_put_42 (lv_at hl 6 rfl) ?_
          refine lv_iload hx hb dX8_put_44 (lv_at hl 7 rfl) ?_
          refine lv_iload hx hb dX8_put_46 (lv_at hl 8 rfl) ?_
          have hPc := hP.sub (ws' := [(d3, .inr (3, [.int r_81.1, .int r_81.2.1, .int r_81.2.2.1, .int r_81.2.2.2.1, .int r_81.2.2.2.2.1, .int r_81.2.2.2.2.2]))]) [1] rfl
          have hDc := hD.sub (ws' := [(d3, .inr (3, [.int r_81.1, .int r_81.2.1, .int r_81.2.2.1, .int r_81.2.2.2.1, .int r_81.2.2.2.2.1, .int r_81.2.2.2.2.2]))]) [1] (by decide) rfl
          have hFc := va_free (wc := [(d3, .inr (3, [.int r_81.1, .int r_81.2.1, .int r_81.2.2.1, .int r_81.2.2.2.1, .int r_81.2.2.2.2.1, .int r_81.2.2.2.2.2]))]) hD hS hA [1] rfl
          refine va_callv (va_runVN (C := RX3) (As := [.int y3, .int y4, .int y5, .int y6]) (rest := []) ⟨hx, hb, hml, hown, hts⟩ (c_X3_tell l dC dI cB cC cI cJ H.size d3 r_81.1 r_81.2.1 r_81.2.2.1 r_81.2.2.2.1 r_81.2.2.2.2.1 r_81.2.2.2.2.2 y3 y4 y5 y6 ) ⟨va_cnB 4 hts gX8_put_X3_tell_n97 rfl rfl rfl (hG.nm (A := #[]) (w := .methodLinkNest RX8 97 yX3_tell "MappingDesk") (by decide +kernel)) (hts (.initialized RX3) (by decide +kernel)) (by decide +kernel) ⟨(Nat.le_of_ble_eq_true rfl), (Nat.le_of_ble_eq_true rfl)⟩, hts (.instanceMethod yX3_tell) (by decide +kernel), hts (.selects RX3 yX3_tell yX3_tell) (by decide +kernel)⟩ ⟨cP_blind, va_recv hG.1 hPc (ci := 3) (q0 := 0) rfl rfl, cP_pre hPc hG hDc⟩ rfl rfl hl.1 rfl (lv_room (Nat.le_of_ble_eq_true rfl)) dX8_put_48 ⟨Nat.le_of_ble_eq_true rfl, Nat.le_of_ble_eq_true rfl⟩) hS (fun q _ h => hFc q h) hFc (fun u t H1 locs ht hvm hw hB hz1 hk1 hS => ?_)
          obtain ⟨hP1, hD1⟩ := hB
          rw [ht] at hP1
          generalize hr_120 : fX3_tell r_81.1 r_81.2.1 r_81.2.2.1 r_81.2.2.2.1 r_81.2.2.2.2.1 r_81.2.2.2.2.2 y3 y4 y5 y6 = r_120 at hP1 hD1
          rw [bnd_eq hr_120] at hR
          obtain ⟨hP, hD⟩ := va_join (wr := [(h0, .inr (8, [.ref d0, .ref d1, .ref d2, .ref d3, .ref d4, .ref d5, .ref d6, .int lf])), (d4, .inr (4, [.ref z0, .ref z1, .ref z2, .ref z3, .ref z4, .ref z5, .int cz])), (z0, .inl (cI, 300, .inl u0)), (z1, .inl (cI, 300, .inl u1)), (z2, .inl (cI, 300, .inl u2)), (z3, .inl (cI, 300, .inl u3)), (z4, .inl (cI, 300, .inl u4)), (z5, .inl (cI, 300, .inl u5)), (d5, .inr (4, [.ref o0, .ref o1, .ref o2, .ref o3, .ref o4, .ref o5, .int co])), (o0, .inl (cI, 300, .inl v0)), (o1, .inl (cI, 300, .inl v1)), (o2, .inl (cI, 300, .inl v2)), (o3, .inl (cI, 300, .inl v3)), (o4, .inl (cI, 300, .inl v4)), (o5, .inl (cI, 300, .inl v5))]) (w1 := [(d3, .inr (3, [.int r_81.1, .int r_81.2.1, .int r_120.1, .int r_120.2.1, .int r_120.2.2.1, .int r_120.2.2.2]))]) hP hD [1] [0, 2, 3, 4, 5, 6, 7, 8, 9, 10, 11, 12, 13, 14, 15] rfl rfl (by decide) (by decide) hk1 hFc hP1 hD1
          generalize H1 = H at hP hS ⊢
          have hP := hP.sub (ws' := [(h0, .inr (8, [.ref d0, .ref d1, .ref d2, .ref d3, .ref d4, .ref d5, .ref d6, .int lf])), (d3, .inr (3, [.int r_81.1, .int r_81.2.1, .int r_120.1, .int r_120.2.1, .int r_120.2.2.1, .int r_120.2.2.2])), (d4, .inr (4, [.ref z0, .ref z1, .ref z2, .ref z3, .ref z4, .ref z5, .int cz])), (z0, .inl (cI, 300, .inl u0)), (z1, .inl (cI, 300, .inl u1)), (z2, .inl (cI, 300, .inl u2)), (z3, .inl (cI, 300, .inl u3)), (z4, .inl (cI, 300, .inl u4)), (z5, .inl (cI, 300, .inl u5)), (d5, .inr (4, [.ref o0, .ref o1, .ref o2, .ref o3, .ref o4, .ref o5, .int co])), (o0, .inl (cI, 300, .inl v0)), (o1, .inl (cI, 300, .inl v1)), (o2, .inl (cI, 300, .inl v2)), (o3, .inl (cI, 300, .inl v3)), (o4, .inl (cI, 300, .inl v4)), (o5, .inl (cI, 300, .inl v5))]) [0, 15, 1, 2, 3, 4, 5, 6, 7, 8, 9, 10, 11, 12, 13, 14] rfl
          have hD := hD.sub (ws' := [(h0, .inr (8, [.ref d0, .ref d1, .ref d2, .ref d3, .ref d4, .ref d5, .ref d6, .int lf])), (d3, .inr (3, [.int r_81.1, .int r_81.2.1, .int r_120.1, .int r_120.2.1, .int r_120.2.2.1, .int r_120.2.2.2])), (d4, .inr (4, [.ref z0, .ref z1, .ref z2, .ref z3, .ref z4, .ref z5, .int cz])), (z0, .inl (cI, 300, .inl u0)), (z1, .inl (cI, 300, .inl u1)), (z2, .inl (cI, 300, .inl u2)), (z3, .inl (cI, 300, .inl u3)), (z4, .inl (cI, 300, .inl u4)), (z5, .inl (cI, 300, .inl u5)), (d5, .inr (4, [.ref o0, .ref o1, .ref o2, .ref o3, .ref o4, .ref o5, .int co])), (o0, .inl (cI, 300, .inl v0)), (o1, .inl (cI, 300, .inl v1)), (o2, .inl (cI, 300, .inl v2)), (o3, .inl (cI, 300, .inl v3)), (o4, .inl (cI, 300, .inl v4)), (o5, .inl (cI, 300, .inl v5))]) [0, 15, 1, 2, 3, 4, 5, 6, 7, 8, 9, 10, 11, 12, 13, 14] (by decide) rfl
          refine lv_aload_n hx hb dX8_put_51 rfl (lv_at hl 1 rfl) ?_
          refine va_get (D := (dC, dI)) (ci := 8) (v := .ref d3) (C := RX8) (T := TX8) (N := 8) hx hb hts inc_X8_put_8 hown hG.1 hP 0 rfl rfl 3 (by decide) (hts (.fieldLink RX8 33 "MappingDesk" "given" "LMappingDesk$Segment;") (by decide +kernel)) (fun _ h9 => h9) rfl dX8_put_52 ?_
          have hPc := hP.sub (ws' := [(d3, .inr (3, [.int r_81.1, .int r_81.2.1, .int r_120.1, .int r_120.2.1, .int r_120.2.2.1, .int r_120.2.2.2]))]) [1] rfl
          have hDc := hD.sub (ws' := [(d3, .inr (3, [.int r_81.1, .int r_81.2.1, .int r_120.1, .int r_120.2.1, .int r_120.2.2.1, .int r_120.2.2.2]))]) [1] (by decide) rfl
          refine vp_callSi (va_Run.run (va_runVN (C := RX3) (As := []) (rest := []) ⟨hx, hb, hml, hown, hts⟩ (c_X3_isInBounds l dC dI cB cC cI cJ H.size d3 r_81.1 r_81.2.1 r_120.1 r_120.2.1 r_120.2.2.1 r_120.2.2.2 ) ⟨va_cnB 0 hts gX8_put_X3_isInBounds_n101 rfl rfl rfl (hG.nm (A := #[]) (w := .methodLinkNest RX8 101 yX3_isInBounds "MappingDesk") (by decide +kernel)) (hts (.initialized RX3) (by decide +kernel)) (by decide +kernel) ⟨(Nat.le_of_ble_eq_true rfl), (Nat.le_of_ble_eq_true rfl)⟩, hts (.instanceMethod yX3_isInBounds) (by decide +kernel), hts (.selects RX3 yX3_isInBounds yX3_isInBounds) (by decide +kernel)⟩ ⟨cP_blind, va_recv hG.1 hPc (ci := 3) (q0 := 0) rfl rfl, cP_pre hPc hG hDc⟩ rfl rfl hl.1 rfl (lv_room (Nat.le_of_ble_eq_true rfl)) dX8_put_55 ⟨Nat.le_of_ble_eq_true rfl, Nat.le_of_ble_eq_true rfl⟩)) (fun r_121 hr_121 => ?_)
          rw [bnd_eq hr_121.symm] at hR
          refine lv_if_ne (tgt := 63) hx hb dX8_put_58 (by decide) (fun c_122 => ?_) (fun c_122 => ?_)
          · rw [if_neg c_122] at hR
            refine lv_aload hx hb dX8_put_63 (lv_at hl 0 rfl) ?_
            refine lv_aload_n hx hb dX8_put_65 rfl (lv_at hl 1 rfl) ?_
            refine va_get (D := (dC, dI)) (ci := 8) (v := .ref d3) (C := RX8) (T := TX8) (N := 8) hx hb hts inc_X8_put_8 hown hG.1 hP 0 rfl rfl 3 (by decide) (hts (.fieldLink RX8 33 "MappingDesk" "given" "LMappingDesk$Segment;") (by decide +kernel)) (fun _ h9 => h9) rfl dX8_put_66 ?_
            have p_123 : 0 ≤ co.toInt := by
              first | exact ho0 | assumption
            have p_124 : co.toInt ≤ 300 := by
              first | exact ho1 | assumption
            have hPc := hP.sub (ws' := [(d5, .inr (4, [.ref o0, .ref o1, .ref o2, .ref o3, .ref o4, .ref o5, .int co])), (o0, .inl (cI, 300, .inl v0)), (o1, .inl (cI, 300, .inl v1)), (o2, .inl (cI, 300, .inl v2)), (o3, .inl (cI, 300, .inl v3)), (o4, .inl (cI, 300, .inl v4)), (o5, .inl (cI, 300, .inl v5)), (d3, .inr (3, [.int r_81.1, .int r_81.2.1, .int r_120.1, .int r_120.2.1, .int r_120.2.2.1, .int r_120.2.2.2]))]) [9, 10, 11, 12, 13, 14, 15, 1] rfl
            have hDc := hD.sub (ws' := [(d5, .inr (4, [.ref o0, .ref o1, .ref o2, .ref o3, .ref o4, .ref o5, .int co])), (o0, .inl (cI, 300, .inl v0)), (o1, .inl (cI, 300, .inl v1)), (o2, .inl (cI, 300, .inl v2)), (o3, .inl (cI, 300, .inl v3)), (o4, .inl (cI, 300, .inl v4)), (o5, .inl (cI, 300, .inl v5)), (d3, .inr (3, [.int r_81.1, .int r_81.2.1, .int r_120.1, .int r_120.2.1, .int r_120.2.2.1, .int r_120.2.2.2]))]) [9, 10, 11, 12, 13, 14, 15, 1] (by decide) rfl
            have hFc := va_free (wc := [(d5, .inr (4, [.ref o0, .ref o1, .ref o2, .ref o3, .ref o4, .ref o5, .int co])), (o0, .inl (cI, 300, .inl v0)), (o1, .inl (cI, 300, .inl v1)), (o2, .inl (cI, 300, .inl v2)), (o3, .inl (cI, 300, .inl v3)), (o4, .inl (cI, 300, .inl v4)), (o5, .inl (cI, 300, .inl v5)), (d3, .inr (3, [.int r_81.1, .int r_81.2.1, .int r_120.1, .int r_120.2.1, .int r_120.2.2.1, .int r_120.2.2.2]))]) hD hS hA [9, 10, 11, 12, 13, 14, 15, 1] rfl
            refine va_callv (va_runVN (C := RX4) (As := [.ref d3]) (rest := []) ⟨hx, hb, hml, hown, hts⟩ (c_X4_insert l dC dI cB cC cI cJ H.size d5 d3 o0 o1 o2 o3 o4 o5 co v0 v1 v2 v3 v4 v5 r_81.1 r_81.2.1 r_120.1 r_120.2.1 r_120.2.2.1 r_120.2.2.2 p_123 p_124) ⟨va_cnB 1 hts gX8_put_X4_insert_n104 rfl rfl rfl (hG.nm (A := #[]) (w := .methodLinkNest RX8 104 yX4_insert "MappingDesk") (by decide +kernel)) (hts (.initialized RX4) (by decide +kernel)) (by decide +kernel) ⟨(Nat.le_of_ble_eq_true rfl), (Nat.le_of_ble_eq_true rfl)⟩, hts (.instanceMethod yX4_insert) (by decide +kernel), hts (.selects RX4 yX4_insert yX4_insert) (by decide +kernel)⟩ ⟨cP_blind, va_recv hG.1 hPc (ci := 4) (q0 := 0) rfl rfl, cP_pre hPc hG hDc⟩ rfl rfl hl.1 rfl (lv_room (Nat.le_of_ble_eq_true rfl)) dX8_put_69 ⟨Nat.le_of_ble_eq_true rfl, Nat.le_of_ble_eq_true rfl⟩) hS (fun q _ h => hFc q h) hFc (fun u t H1 locs ht hvm hw hB hz1 hk1 hS => ?_)
            obtain ⟨hP1, hD1⟩ := hB
            rw [ht] at hP1
            generalize hr_125 : fX4_insert co v0 v1 v2 v3 v4 v5 r_81.1 r_81.2.1 r_120.1 r_120.2.1 r_120.2.2.1 r_120.2.2.2 = r_125 at hP1 hD1 hw
            have er_125_0 := hw
            rw [bnd_eq hr_125] at hR
            obtain ⟨hP, hD⟩ := va_join (wr := [(h0, .inr (8, [.ref d0, .ref d1, .ref d2, .ref d3, .ref d4, .ref d5, .ref d6, .int lf])), (d4, .inr (4, [.ref z0, .ref z1, .ref z2, .ref z3, .ref z4, .ref z5, .int cz])), (z0, .inl (cI, 300, .inl u0)), (z1, .inl (cI, 300, .inl u1)), (z2, .inl (cI, 300, .inl u2)), (z3, .inl (cI, 300, .inl u3)), (z4, .inl (cI, 300, .inl u4)), (z5, .inl (cI, 300, .inl u5))]) (w1 := [(d5, .inr (4, [.ref o0, .ref o1, .ref o2, .ref o3, .ref o4, .ref o5, .int r_125.1])), (o0, .inl (cI, 300, .inl r_125.2.1)), (o1, .inl (cI, 300, .inl r_125.2.2.1)), (o2, .inl (cI, 300, .inl r_125.2.2.2.1)), (o3, .inl (cI, 300, .inl r_125.2.2.2.2.1)), (o4, .inl (cI, 300, .inl r_125.2.2.2.2.2.1)), (o5, .inl (cI, 300, .inl r_125.2.2.2.2.2.2)), (d3, .inr (3, [.int r_81.1, .int r_81.2.1, .int r_120.1, .int r_120.2.1, .int r_120.2.2.1, .int r_120.2.2.2]))]) hP hD [9, 10, 11, 12, 13, 14, 15, 1] [0, 2, 3, 4, 5, 6, 7, 8] rfl rfl (by decide) (by decide) hk1 hFc hP1 hD1
            generalize H1 = H at hP hS ⊢
            have hP := hP.sub (ws' := [(h0, .inr (8, [.ref d0, .ref d1, .ref d2, .ref d3, .ref d4, .ref d5, .ref d6, .int lf])), (d3, .inr (3, [.int r_81.1, .int r_81.2.1, .int r_120.1, .int r_120.2.1, .int r_120.2.2.1, .int r_120.2.2.2])), (d4, .inr (4, [.ref z0, .ref z1, .ref z2, .ref z3, .ref z4, .ref z5, .int cz])), (z0, .inl (cI, 300, .inl u0)), (z1, .inl (cI, 300, .inl u1)), (z2, .inl (cI, 300, .inl u2)), (z3, .inl (cI, 300, .inl u3)), (z4, .inl (cI, 300, .inl u4)), (z5, .inl (cI, 300, .inl u5)), (d5, .inr (4, [.ref o0, .ref o1, .ref o2, .ref o3, .ref o4, .ref o5, .int r_125.1])), (o0, .inl (cI, 300, .inl r_125.2.1)), (o1, .inl (cI, 300, .inl r_125.2.2.1)), (o2, .inl (cI, 300, .inl r_125.2.2.2.1)), (o3, .inl (cI, 300, .inl r_125.2.2.2.2.1)), (o4, .inl (cI, 300, .inl r_125.2.2.2.2.2.1)), (o5, .inl (cI, 300, .inl r_125.2.2.2.2.2.2))]) [0, 15, 1, 2, 3, 4, 5, 6, 7, 8, 9, 10, 11, 12, 13, 14] rfl
            have hD := hD.sub (ws' := [(h0, .inr (8, [.ref d0, .ref d1, .ref d2, .ref d3, .ref d4, .ref d5, .ref d6, .int lf])), (d3, .inr (3, [.int r_81.1, .int r_81.2.1, .int r_120.1, .int r_120.2.1, .int r_120.2.2.1, .int r_120.2.2.2])), (d4, .inr (4, [.ref z0, .ref z1, .ref z2, .ref z3, .ref z4, .ref z5, .int cz])), (z0, .inl (cI, 300, .inl u0)), (z1, .inl (cI, 300, .inl u1)), (z2, .inl (cI, 300, .inl u2)), (z3, .inl (cI, 300, .inl u3)), (z4, .inl (cI, 300, .inl u4)), (z5, .inl (cI, 300, .inl u5)), (d5, .inr (4, [.ref o0, .ref o1, .ref o2, .ref o3, .ref o4, .ref o5, .int r_125.1])), (o0, .inl (cI, 300, .inl r_125.2.1)), (o1, .inl (cI, 300, .inl r_125.2.2.1)), (o2, .inl (cI, 300, .inl r_125.2.2.2.1)), (o3, .inl (cI, 300, .inl r_125.2.2.2.2.1)), (o4, .inl (cI, 300, .inl r_125.2.2.2.2.2.1)), (o5, .inl (cI, 300, .inl r_125.2.2.2.2.2.2))]) [0, 15, 1, 2, 3, 4, 5, 6, 7, 8, 9, 10, 11, 12, 13, 14] (by decide) rfl
            refine lv_aload hx hb dX8_put_72 (lv_at hl 0 rfl) ?_
            refine va_getN (D := (dC, dI)) (ci := 4) (v := .int r_125.1) (C := RX4) (T := TX4) (N := 7) hx hb hts inc_X8_put_4 hown hG.1 hP 9 rfl rfl 6 (by decide) (hG.nf (a := RX8) (i := 87) (b := "MappingDesk$Table") (n := "count") (d := "I") (t := "MappingDesk") (by decide +kernel)) (fun _ h9 => h9) rfl dX8_put_74 ?_
            have e_126 : 0 ≤ (cz : Int32).toInt ∧ (cz : Int32).toInt ≤ 300 := by
              have k_127 : (0 : Int32).toInt = 0 := by decide
              have q_128 := i_ne c_1
              have k_129 : (1 : Int32).toInt = 1 := by decide
              have q_130 := i_eq c_75
              have q_131 := i_eq c_80
              have q_132 := i_nlt c_82
              have q_133 := i_ne c_122
              try generalize Int32.toInt r_125.1 = z0 at *
              try generalize Int32.toInt r_81.1 = z1 at *
              try generalize Int32.toInt r_121 = z2 at *
              try generalize Int32.toInt r_79 = z3 at *
              try generalize Int32.toInt co = z4 at *
              try generalize Int32.toInt cz = z5 at *
              try generalize Int32.toInt y3 = z6 at *
              try generalize Int32.toInt (0 : Int32) = z7 at *
              try generalize Int32.toInt (1 : Int32) = z8 at *
              try generalize Int32.toInt x = z9 at *
              omega
            have e_134 : 0 ≤ (r_125.1 : Int32).toInt ∧ (r_125.1 : Int32).toInt ≤ 300 := by
              have k_135 : (0 : Int32).toInt = 0 := by decide
              have q_136 := i_ne c_1
              have k_137 : (1 : Int32).toInt = 1 := by decide
              have q_138 := i_eq c_75
              have q_139 := i_eq c_80
              have q_140 := i_nlt c_82
              have q_141 := i_ne c_122
              try generalize Int32.toInt r_125.1 = z0 at *
              try generalize Int32.toInt r_81.1 = z1 at *
              try generalize Int32.toInt r_121 = z2 at *
              try generalize Int32.toInt r_79 = z3 at *
              try generalize Int32.toInt co = z4 at *
              try generalize Int32.toInt cz = z5 at *
              try generalize Int32.toInt y3 = z6 at *
              try generalize Int32.toInt (0 : Int32) = z7 at *
              try generalize Int32.toInt (1 : Int32) = z8 at *
              try generalize Int32.toInt x = z9 at *
              omega
            subst hR
            exact W.iret (v := r_125.1) hx hb hr (fun t ht hW => ⟨⟨r_125.1, (), rfl, ⟨rfl, e_126, e_134⟩, by rw [ht]; exact hP, hD⟩, hS.F ht⟩) hS.2.2 dX8_put_77
          · rw [if_pos c_122] at hR
            refine lv_iconst (v := (-1)) hx hb dX8_put_61 (by decide) ?_
            have e_142 : 0 ≤ (cz : Int32).toInt ∧ (cz : Int32).toInt ≤ 300 := by
              have k_143 : (0 : Int32).toInt = 0 := by decide
              have q_144 := i_ne c_1
              have k_145 : (1 : Int32).toInt = 1 := by decide
              have q_146 := i_eq c_75
              have q_147 := i_eq c_80
              have q_148 := i_nlt c_82
              have q_149 := i_eq c_122
              try generalize Int32.toInt r_81.1 = z0 at *
              try generalize Int32.toInt r_121 = z1 at *
              try generalize Int32.toInt r_79 = z2 at *
              try generalize Int32.toInt co = z3 at *
              try generalize Int32.toInt cz = z4 at *
              try generalize Int32.toInt y3 = z5 at *
              try generalize Int32.toInt (0 : Int32) = z6 at *
              try generalize Int32.toInt (1 : Int32) = z7 at *
              try generalize Int32.toInt x = z8 at *
              omega
            have e_150 : 0 ≤ (co : Int32).toInt ∧ (co : Int32).toInt ≤ 300 := by
              have k_151 : (0 : Int32).toInt = 0 := by decide
              have q_152 := i_ne c_1
              have k_153 : (1 : Int32).toInt = 1 := by decide
              have q_154 := i_eq c_75
              have q_155 := i_eq c_80
              have q_156 := i_nlt c_82
              have q_157 := i_eq c_122
              try generalize Int32.toInt r_81.1 = z0 at *
              try generalize Int32.toInt r_121 = z1 at *
              try generalize Int32.toInt r_79 = z2 at *
              try generalize Int32.toInt co = z3 at *
              try generalize Int32.toInt cz = z4 at *
              try generalize Int32.toInt y3 = z5 at *
              try generalize Int32.toInt (0 : Int32) = z6 at *
              try generalize Int32.toInt (1 : Int32) = z7 at *
              try generalize Int32.toInt x = z8 at *
              omega
            subst hR
            exact W.iret (v := (-1)) hx hb hr (fun t ht hW => ⟨⟨(-1), (), rfl, ⟨rfl, e_142, e_150⟩, by rw [ht]; exact hP, hD⟩, hS.F ht⟩) hS.2.2 dX8_put_62
      · rw [if_neg c_80] at hR
        refine lv_iconst (v := (-1)) hx hb dX8_put_20 (by decide) ?_
        have e_158 : 0 ≤ (cz : Int32).toInt ∧ (cz : Int32).toInt ≤ 300 := by
          have k_159 : (0 : Int32).toInt = 0 := by decide
          have q_160 := i_ne c_1
          have k_161 : (1 : Int32).toInt = 1 := by decide
          have q_162 := i_eq c_75
          have q_163 := i_ne c_80
          try generalize Int32.toInt r_79 = z0 at *
          try generalize Int32.toInt co = z1 at *
          try generalize Int32.toInt cz = z2 at *
          try generalize Int32.toInt (0 : Int32) = z3 at *
          try generalize Int32.toInt (1 : Int32) = z4 at *
          try generalize Int32.toInt x = z5 at *
          omega
        have e_164 : 0 ≤ (co : Int32).toInt ∧ (co : Int32).toInt ≤ 300 := by
          have k_165 : (0 : Int32).toInt = 0 := by decide
          have q_166 := i_ne c_1
          have k_167 : (1 : Int32).toInt = 1 := by decide
          have q_168 := i_eq c_75
          have q_169 := i_ne c_80
          try generalize Int32.toInt r_79 = z0 at *
          try generalize Int32.toInt co = z1 at *
          try generalize Int32.toInt cz = z2 at *
          try generalize Int32.toInt (0 : Int32) = z3 at *
          try generalize Int32.toInt (1 : Int32) = z4 at *
          try generalize Int32.toInt x = z5 at *
          omega
        subst hR
        exact W.iret (v := (-1)) hx hb hr (fun t ht hW => ⟨⟨(-1), (), rfl, ⟨rfl, e_158, e_164⟩, by rw [ht]; exact hP, hD⟩, hS.F ht⟩) hS.2.2 dX8_put_21
    · rw [if_neg c_75] at hR
      have p_170 : ¬ x = 0 := by
        assumption
      have p_171 : ¬ x = 1 := by
        assumption
      have hPc := hP.sub (ws' := [(h0, .inr (8, [.ref d0, .ref d1, .ref d2, .ref d3, .ref d4, .ref d5, .ref d6, .int lf]))]) [0] rfl
      have hDc := hD.sub (ws' := [(h0, .inr (8, [.ref d0, .ref d1, .ref d2, .ref d3, .ref d4, .ref d5, .ref d6, .int lf]))]) [0] (by decide) rfl
      refine va_csr (va_Run.run (va_runV (As := [.int x]) (rest := []) ⟨hx, hb, hml, hown, hts⟩ (c_X8_tableOf_n l dC dI cB cC cI cJ H.size h0 d0 d1 d2 d3 d4 d5 d6 lf x p_170 p_171) (cwV 1 hts gX8_put_X8_tableOf rfl rfl rfl (by decide +kernel) ⟨(Nat.le_of_ble_eq_true rfl), (Nat.le_of_ble_eq_true rfl)⟩) ⟨cP_blind, va_recv hG.1 hPc (ci := 8) (q0 := 0) rfl rfl, cP_pre hPc hG hDc⟩ rfl rfl hl.1 rfl (lv_room (Nat.le_of_ble_eq_true rfl)) dX8_put_2 ⟨Nat.le_of_ble_eq_true rfl, Nat.le_of_ble_eq_true rfl⟩)) (fun r_172 hr_172 => ?_)
      show W _ _ _ _ _ _ _ _ _ _ _ _ _ _ _ (F0 m 5 ls (.null :: []))
      refine lv_astoreN (lv' := [(8, .null), (0, .ref h0), (1, .int x), (2, .int y1), (3, .int y2), (4, .int y3), (5, .int y4), (6, .int y5), (7, .int y6)]) hx hb dX8_put_5 hl (by decide) rfl (fun ls hl => ?_)
      refine lv_aloadN hx hb dX8_put_7 (lv_at hl 0 rfl) ?_
      refine lv_ifnullN (tgt := 20) hx hb dX8_put_9 (by decide) ?_
      refine lv_iconst (v := (-1)) hx hb dX8_put_20 (by decide) ?_
      have e_173 : 0 ≤ (cz : Int32).toInt ∧ (cz : Int32).toInt ≤ 300 := by
        have k_174 : (0 : Int32).toInt = 0 := by decide
        have q_175 := i_ne c_1
        have k_176 : (1 : Int32).toInt = 1 := by decide
        have q_177 := i_ne c_75
        try generalize Int32.toInt co = z0 at *
        try generalize Int32.toInt cz = z1 at *
        try generalize Int32.toInt (0 : Int32) = z2 at *
        try generalize Int32.toInt (1 : Int32) = z3 at *
        try generalize Int32.toInt x = z4 at *
        omega
      have e_178 : 0 ≤ (co : Int32).toInt ∧ (co : Int32).toInt ≤ 300 := by
        have k_179 : (0 : Int32).toInt = 0 := by decide
        have q_180 := i_ne c_1
        have k_181 : (1 : Int32).toInt = 1 := by decide
        have q_182 := i_ne c_75
        try generalize Int32.toInt co = z0 at *
        try generalize Int32.toInt cz = z1 at *
        try generalize Int32.toInt (0 : Int32) = z2 at *
        try generalize Int32.toInt (1 : Int32) = z3 at *
        try generalize Int32.toInt x = z4 at *
        omega
      subst hR
      exact W.iret (v := (-1)) hx hb hr (fun t ht hW => ⟨⟨(-1), (), rfl, ⟨rfl, e_173, e_178⟩, by rw [ht]; exact hP, hD⟩, hS.F ht⟩) hS.2.2 dX8_put_21

def fX8_ask (lf : Int32) (cz : Int32) (u0 u1 u2 u3 u4 u5 : Nat → Int32) (co : Int32) (v0 v1 v2 v3 v4 v5 : Nat → Int32) (x y z w : Int32) : Int32 :=
  if x = 0 then
    bnd (fX8_isWithin ((y : Int32).toInt64) 999999) fun r_4 =>
    if r_4 = 0 then
      (-1)
    else
      bnd (fX8_isWithin ((z : Int32).toInt64) 999999) fun r_6 =>
      if r_6 = 0 then
        (-1)
      else
        bnd (fX4_findTelling cz u0 u1 u2 y z) fun r_10 =>
        if 0 ≤ r_10 then
          if w = 0 then
            (u2 r_10.toNatClampNeg)
          else
            if w = 1 then
              (u3 r_10.toNatClampNeg)
            else
              if w = 2 then
                (u4 r_10.toNatClampNeg)
              else
                if w = 3 then
                  (u5 r_10.toNatClampNeg)
                else
                  if w = 4 then
                    r_10
                  else
                    (-1)
        else
          (-1)
  else
    if x = 1 then
      bnd (fX8_isWithin ((y : Int32).toInt64) 999999) fun r_79 =>
      if r_79 = 0 then
        (-1)
      else
        bnd (fX8_isWithin ((z : Int32).toInt64) 999999) fun r_81 =>
        if r_81 = 0 then
          (-1)
        else
          bnd (fX4_findTelling co v0 v1 v2 y z) fun r_85 =>
          if 0 ≤ r_85 then
            if w = 0 then
              (v2 r_85.toNatClampNeg)
            else
              if w = 1 then
                (v3 r_85.toNatClampNeg)
              else
                if w = 2 then
                  (v4 r_85.toNatClampNeg)
                else
                  if w = 3 then
                    (v5 r_85.toNatClampNeg)
                  else
                    if w = 4 then
                      r_85
                    else
                      (-1)
          else
            (-1)
    else
      (-1)
theorem inc_X8_ask_4 : ∀ w ∈ u_ws RX4 TX4 7, w ∈ wsX8_ask := by decide +kernel
set_option maxHeartbeats 4000000 in
set_option maxRecDepth 100000 in
theorem c_X8_ask (l : Launch) (dC : Nat → ClassId) (dI : Nat → Nat → Nat) (cB cC cI cJ : ClassId) (sz : Nat) (h0 d0 d1 d2 d3 d4 d5 d6 z0 z1 z2 z3 z4 z5 o0 o1 o2 o3 o4 o5 : Nat) (lf : Int32) (cz : Int32) (u0 u1 u2 u3 u4 u5 : Nat → Int32) (co : Int32) (v0 v1 v2 v3 v4 v5 : Nat → Int32) (x y z w : Int32) (hz0 : 0 ≤ cz.toInt) (hz1 : cz.toInt ≤ 300) (ho0 : 0 ≤ co.toInt) (ho1 : co.toInt ≤ 300) : Met l yX8_ask wsX8_ask ({ frames := 2, cells := 0, slots := 0, locals := 44 } : Room) (cP dC dI cB cC cI cJ [.ref h0, .int x, .int y, .int z, .int w] sz [(h0, .inr (8, [.ref d0, .ref d1, .ref d2, .ref d3, .ref d4, .ref d5, .ref d6, .int lf])), (d4, .inr (4, [.ref z0, .ref z1, .ref z2, .ref z3, .ref z4, .ref z5, .int cz])), (z0, .inl (cI, 300, .inl u0)), (z1, .inl (cI, 300, .inl u1)), (z2, .inl (cI, 300, .inl u2)), (z3, .inl (cI, 300, .inl u3)), (z4, .inl (cI, 300, .inl u4)), (z5, .inl (cI, 300, .inl u5)), (d5, .inr (4, [.ref o0, .ref o1, .ref o2, .ref o3, .ref o4, .ref o5, .int co])), (o0, .inl (cI, 300, .inl v0)), (o1, .inl (cI, 300, .inl v1)), (o2, .inl (cI, 300, .inl v2)), (o3, .inl (cI, 300, .inl v3)), (o4, .inl (cI, 300, .inl v4)), (o5, .inl (cI, 300, .inl v5))]) (vp_Si (fun r => r = (fX8_ask lf cz u0 u1 u2 u3 u4 u5 co v0 v1 v2 v3 v4 v5 x y z w))) 0 0 (fun _ => False) := by
  refine Met.ofW (cc := cX8_ask) (maxL := 7) (ret := (some .int)) (by decide) rfl ?_
  intro p e s m args below meth c s₁ B hml hv
  obtain ⟨rfl, hsz, hP, hG, hD0⟩ := hv
  have hx := B.exec
  have hb := B.bytes
  have hr := B.returns
  have hts := atoms_spec (ws := wsX8_ask) B.pre
  have hown : s.vm.findClass RX8 = some m.cls := findClass_of_methodNamed B.named
  have hlocks := B.notSynchronized
  subst hsz
  obtain ⟨H, hH⟩ : ∃ H : Heap, H = s.heap := ⟨_, rfl⟩
  rw [← hH] at hP ⊢
  generalize hR : fX8_ask lf cz u0 u1 u2 u3 u4 u5 co v0 v1 v2 v3 v4 v5 x y z w = R
  unfold fX8_ask at hR
  have hl := lv_entry ([.ref h0, .int x, .int y, .int z, .int w]) (n := 7) (Nat.le_of_ble_eq_true rfl)
  rw [lg_entry_eq]
  generalize (lg_sl ([.ref h0, .int x, .int y, .int z, .int w]) ++ List.replicate (7 - (lg_sl ([.ref h0, .int x, .int y, .int z, .int w])).length) Slot.unset).toArray = ls at hl ⊢
  have hl : lv_has ls 7 [(0, .ref h0), (1, .int x), (2, .int y), (3, .int z), (4, .int w)] := hl
  refine lv_aload_n hx hb dX8_ask_0 rfl (lv_at hl 0 rfl) ?_
  refine lv_iload_n hx hb dX8_ask_1 rfl (lv_at hl 1 rfl) ?_
  by_cases c_1 : x = 0
  · rw [if_pos c_1] at hR
    have p_2 : x = 0 := by
      assumption
    have hPc := hP.sub (ws' := [(h0, .inr (8, [.ref d0, .ref d1, .ref d2, .ref d3, .ref d4, .ref d5, .ref d6, .int lf]))]) [0] rfl
    have hDc := hD0.sub (ws' := [(h0, .inr (8, [.ref d0, .ref d1, .ref d2, .ref d3, .ref d4, .ref d5, .ref d6, .int lf]))]) [0] (by decide) rfl
    refine va_csr (va_Run.run (va_runV (As := [.int x]) (rest := []) ⟨hx, hb, hml, hown, hts⟩ (c_X8_tableOf_0 l dC dI cB cC cI cJ H.size h0 d0 d1 d2 d3 d4 d5 d6 lf x p_2) (cwV 1 hts gX8_ask_X8_tableOf rfl rfl rfl (by decide +kernel) ⟨(Nat.le_of_ble_eq_true rfl), (Nat.le_of_ble_eq_true rfl)⟩) ⟨cP_blind, va_recv hG.1 hPc (ci := 8) (q0 := 0) rfl rfl, cP_pre hPc hG hDc⟩ rfl rfl hl.1 rfl (lv_room (Nat.le_of_ble_eq_true rfl)) dX8_ask_2 ⟨Nat.le_of_ble_eq_true rfl, Nat.le_of_ble_eq_true rfl⟩)) (fun r_3 hr_3 => ?_)
    show W _ _ _ _ _ _ _ _ _ _ _ _ _ _ _ (F0 m 5 ls (.ref d4 :: []))
    refine lv_astore (lv' := [(5, .ref d4), (0, .ref h0), (1, .int x), (2, .int y), (3, .int z), (4, .int w)]) hx hb dX8_ask_5 hl (by decide) rfl (fun ls hl => ?_)
    refine lv_aload hx hb dX8_ask_7 (lv_at hl 0 rfl) ?_
    refine lv_ifnull hx hb dX8_ask_9 ?_
    refine lv_iload_n hx hb dX8_ask_12 rfl (lv_at hl 3 rfl) ?_
    refine lv_i2l hx hb dX8_ask_13 rfl ?_
    refine lv_ldc (v := 999999) hx hb hown (hts (.constant RX8 124 999999) (by decide +kernel)) dX8_ask_14 ?_
    have hPc := hP.sub (ws' := []) [] rfl
    have hDc := hD0.sub (ws' := []) [] (by decide) rfl
    refine vp_callSi (va_Run.run (va_runS (As := [.long ((y : Int32).toInt64), .int 999999]) (rest := []) ⟨hx, hb, hml, hown, hts⟩ (c_X8_isWithin l dC dI cB cC cI cJ H.size ((y : Int32).toInt64) 999999 ) (va_cwS 2 hts gX8_ask_X8_isWithin rfl rfl rfl (by decide +kernel) ⟨(Nat.le_of_ble_eq_true rfl), (Nat.le_of_ble_eq_true rfl)⟩) ⟨cP_blind, cP_pre hPc hG hDc⟩ rfl rfl hl.1 rfl (lv_room (Nat.le_of_ble_eq_true rfl)) dX8_ask_16 ⟨Nat.le_of_ble_eq_true rfl, Nat.le_of_ble_eq_true rfl⟩)) (fun r_4 hr_4 => ?_)
    rw [bnd_eq hr_4.symm] at hR
    refine lv_if_eq (tgt := 32) hx hb dX8_ask_19 (by decide) (fun c_5 => ?_) (fun c_5 => ?_)
    · rw [if_pos c_5] at hR
      refine lv_iconst (v := (-1)) hx hb dX8_ask_32 (by decide) ?_
      subst hR
      exact W.iret (v := (-1)) hx hb hr (fun t ht hW => ⟨(-1), rfl, rfl, ht.trans hH⟩) t_nil dX8_ask_33
    · rw [if_neg c_5] at hR
      refine lv_iload_n hx hb dX8_ask_22 rfl (lv_at hl 4 rfl) ?_
      refine lv_i2l hx hb dX8_ask_23 rfl ?_
      refine lv_ldc (v := 999999) hx hb hown (hts (.constant RX8 124 999999) (by decide +kernel)) dX8_ask_24 ?_
      have hPc := hP.sub (ws' := []) [] rfl
      have hDc := hD0.sub (ws' := []) [] (by decide) rfl
      refine vp_callSi (va_Run.run (va_runS (As := [.long ((z : Int32).toInt64), .int 999999]) (rest := []) ⟨hx, hb, hml, hown, hts⟩ (c_X8_isWithin l dC dI cB cC cI cJ H.size ((z : Int32).toInt64) 999999 ) (va_cwS 2 hts gX8_ask_X8_isWithin rfl rfl rfl (by decide +kernel) ⟨(Nat.le_of_ble_eq_true rfl), (Nat.le_of_ble_eq_true rfl)⟩) ⟨cP_blind, cP_pre hPc hG hDc⟩ rfl rfl hl.1 rfl (lv_room (Nat.le_of_ble_eq_true rfl)) dX8_ask_26 ⟨Nat.le_of_ble_eq_true rfl, Nat.le_of_ble_eq_true rfl⟩)) (fun r_6 hr_6 => ?_)
      rw [bnd_eq hr_6.symm] at hR
      refine lv_if_ne (tgt := 34) hx hb dX8_ask_29 (by decide) (fun c_7 => ?_) (fun c_7 => ?_)
      · rw [if_neg c_7] at hR
        refine lv_aload hx hb dX8_ask_34 (lv_at hl 0 rfl) ?_
        refine lv_iload_n hx hb dX8_ask_36 rfl (lv_at hl 3 rfl) ?_
        refine lv_iload_n hx hb dX8_ask_37 rfl (lv_at hl 4 rfl) ?_
        have p_8 : 0 ≤ cz.toInt := by
          first | exact hz0 | assumption
        have p_9 : cz.toInt ≤ 300 := by
          first | exact hz1 | assumption
        have hPc := hP.sub (ws' := [(d4, .inr (4, [.ref z0, .ref z1, .ref z2, .ref z3, .ref z4, .ref z5, .int cz])), (z0, .inl (cI, 300, .inl u0)), (z1, .inl (cI, 300, .inl u1)), (z2, .inl (cI, 300, .inl u2))]) [1, 2, 3, 4] rfl
        have hDc := hD0.sub (ws' := [(d4, .inr (4, [.ref z0, .ref z1, .ref z2, .ref z3, .ref z4, .ref z5, .int cz])), (z0, .inl (cI, 300, .inl u0)), (z1, .inl (cI, 300, .inl u1)), (z2, .inl (cI, 300, .inl u2))]) [1, 2, 3, 4] (by decide) rfl
        refine vp_callSi (va_Run.run (va_runVN (C := RX4) (As := [.int y, .int z]) (rest := []) ⟨hx, hb, hml, hown, hts⟩ (c_X4_findTelling l dC dI cB cC cI cJ H.size d4 z0 z1 z2 z3 z4 z5 cz u0 u1 u2 y z p_8 p_9) ⟨va_cnB 2 hts gX8_ask_X4_findTelling_n129 rfl rfl rfl (hG.nm (A := #[]) (w := .methodLinkNest RX8 129 yX4_findTelling "MappingDesk") (by decide +kernel)) (hts (.initialized RX4) (by decide +kernel)) (by decide +kernel) ⟨(Nat.le_of_ble_eq_true rfl), (Nat.le_of_ble_eq_true rfl)⟩, hts (.instanceMethod yX4_findTelling) (by decide +kernel), hts (.selects RX4 yX4_findTelling yX4_findTelling) (by decide +kernel)⟩ ⟨cP_blind, va_recv hG.1 hPc (ci := 4) (q0 := 0) rfl rfl, cP_pre hPc hG hDc⟩ rfl rfl hl.1 rfl (lv_room (Nat.le_of_ble_eq_true rfl)) dX8_ask_38 ⟨Nat.le_of_ble_eq_true rfl, Nat.le_of_ble_eq_true rfl⟩)) (fun r_10 hr_10 => ?_)
        obtain ⟨hr_10, er_10_0⟩ := hr_10
        rw [← hr_10] at er_10_0
        rw [bnd_eq hr_10.symm] at hR
        refine lv_istore (lv' := [(6, .int r_10), (5, .ref d4), (0, .ref h0), (1, .int x), (2, .int y), (3, .int z), (4, .int w)]) hx hb dX8_ask_41 hl (by decide) rfl (fun ls hl => ?_)
        refine lv_iload hx hb dX8_ask_43 (lv_at hl 0 rfl) ?_
        refine lv_if_ge (tgt := 50) hx hb dX8_ask_45 (by decide) (fun c_11 => ?_) (fun c_11 => ?_)
        · rw [if_pos c_11] at hR
          refine lv_iload hx hb dX8_ask_50 (lv_at hl 6 rfl) ?_
          by_cases c_12 : w = 0
          · rw [if_pos c_12] at hR
            refine lv_tableIn (tgt := 88) (off := 36) hx hb dX8_ask_52 (by rw [c_12]; decide) (by rw [c_12]; decide) (by rw [c_12]; decide) (by decide) ?_
            refine lv_aload hx hb dX8_ask_88 (lv_at hl 1 rfl) ?_
            refine va_getN (D := (dC, dI)) (ci := 4) (v := .ref z2) (C := RX4) (T := TX4) (N := 7) hx hb hts inc_X8_ask_4 hown hG.1 hP 1 rfl rfl 2 (by decide) (hG.nf (a := RX8) (i := 133) (b := "MappingDesk$Table") (n := "sources") (d := "[I") (t := "MappingDesk") (by decide +kernel)) (fun _ h9 => h9) rfl dX8_ask_90 ?_
            refine lv_iload hx hb dX8_ask_93 (lv_at hl 0 rfl) ?_
            have b_13 : vp_in r_10 300 := by
              have k_14 : (0 : Int32).toInt = 0 := by decide
              have q_15 := i_eq c_1
              have q_16 := i_ne c_5
              have q_17 := i_ne c_7
              have q_18 := i_le c_11
              have q_19 := i_eq c_12
              refine vin ?_ ?_
              all_goals (try generalize Int32.toInt r_10 = z0 at *; try generalize Int32.toInt r_4 = z1 at *; try generalize Int32.toInt r_6 = z2 at *; try generalize Int32.toInt co = z3 at *; try generalize Int32.toInt cz = z4 at *; try generalize Int32.toInt (0 : Int32) = z5 at *; try generalize Int32.toInt w = z6 at *; try generalize Int32.toInt x = z7 at *; omega)
            refine va_iald hx hb hG.1 hP 4 2 rfl rfl b_13 dX8_ask_95 ?_
            subst hR
            exact W.iret (v := (u2 r_10.toNatClampNeg)) hx hb hr (fun t ht hW => ⟨(u2 r_10.toNatClampNeg), rfl, rfl, ht.trans hH⟩) t_nil dX8_ask_96
          · rw [if_neg c_12] at hR
            by_cases c_22 : w = 1
            · rw [if_pos c_22] at hR
              refine lv_tableIn (tgt := 97) (off := 45) hx hb dX8_ask_52 (by rw [c_22]; decide) (by rw [c_22]; decide) (by rw [c_22]; decide) (by decide) ?_
              refine lv_aload hx hb dX8_ask_97 (lv_at hl 1 rfl) ?_
              refine va_getN (D := (dC, dI)) (ci := 4) (v := .ref z3) (C := RX4) (T := TX4) (N := 7) hx hb hts inc_X8_ask_4 hown hG.1 hP 1 rfl rfl 3 (by decide) (hG.nf (a := RX8) (i := 137) (b := "MappingDesk$Table") (n := "sourceLines") (d := "[I") (t := "MappingDesk") (by decide +kernel)) (fun _ h9 => h9) rfl dX8_ask_99 ?_
              refine lv_iload hx hb dX8_ask_102 (lv_at hl 0 rfl) ?_
              have b_23 : vp_in r_10 300 := by
                have k_24 : (0 : Int32).toInt = 0 := by decide
                have q_25 := i_eq c_1
                have q_26 := i_ne c_5
                have q_27 := i_ne c_7
                have q_28 := i_le c_11
                have q_29 := i_ne c_12
                have k_30 : (1 : Int32).toInt = 1 := by decide
                have q_31 := i_eq c_22
                refine vin ?_ ?_
                all_goals (try generalize Int32.toInt r_10 = z0 at *; try generalize Int32.toInt r_4 = z1 at *; try generalize Int32.toInt r_6 = z2 at *; try generalize Int32.toInt co = z3 at *; try generalize Int32.toInt cz = z4 at *; try generalize Int32.toInt (0 : Int32) = z5 at *; try generalize Int32.toInt (1 : Int32) = z6 at *; try generalize Int32.toInt w = z7 at *; try generalize Int32.toInt x = z8 at *; omega)
              refine va_iald hx hb hG.1 hP 5 2 rfl rfl b_23 dX8_ask_104 ?_
              subst hR
              exact W.iret (v := (u3 r_10.toNatClampNeg)) hx hb hr (fun t ht hW => ⟨(u3 r_10.toNatClampNeg), rfl, rfl, ht.trans hH⟩) t_nil dX8_ask_105
            · rw [if_neg c_22] at hR
              by_cases c_34 : w = 2
              · rw [if_pos c_34] at hR
                refine lv_tableIn (tgt := 106) (off := 54) hx hb dX8_ask_52 (by rw [c_34]; decide) (by rw [c_34]; decide) (by rw [c_34]; decide) (by decide) ?_
                refine lv_aload hx hb dX8_ask_106 (lv_at hl 1 rfl) ?_
                refine va_getN (D := (dC, dI)) (ci := 4) (v := .ref z4) (C := RX4) (T := TX4) (N := 7) hx hb hts inc_X8_ask_4 hown hG.1 hP 1 rfl rfl 4 (by decide) (hG.nf (a := RX8) (i := 140) (b := "MappingDesk$Table") (n := "sourceColumns") (d := "[I") (t := "MappingDesk") (by decide +kernel)) (fun _ h9 => h9) rfl dX8_ask_108 ?_
                refine lv_iload hx hb dX8_ask_111 (lv_at hl 0 rfl) ?_
                have b_35 : vp_in r_10 300 := by
                  have k_36 : (0 : Int32).toInt = 0 := by decide
                  have q_37 := i_eq c_1
                  have q_38 := i_ne c_5
                  have q_39 := i_ne c_7
                  have q_40 := i_le c_11
                  have q_41 := i_ne c_12
                  have k_42 : (1 : Int32).toInt = 1 := by decide
                  have q_43 := i_ne c_22
                  have k_44 : (2 : Int32).toInt = 2 := by decide
                  have q_45 := i_eq c_34
                  refine vin ?_ ?_
                  all_goals (try generalize Int32.toInt r_10 = z0 at *; try generalize Int32.toInt r_4 = z1 at *; try generalize Int32.toInt r_6 = z2 at *; try generalize Int32.toInt co = z3 at *; try generalize Int32.toInt cz = z4 at *; try generalize Int32.toInt (0 : Int32) = z5 at *; try generalize Int32.toInt (1 : Int32) = z6 at *; try generalize Int32.toInt (2 : Int32) = z7 at *; try generalize Int32.toInt w = z8 at *; try generalize Int32.toInt x = z9 at *; omega)
                refine va_iald hx hb hG.1 hP 6 2 rfl rfl b_35 dX8_ask_113 ?_
                subst hR
                exact W.iret (v := (u4 r_10.toNatClampNeg)) hx hb hr (fun t ht hW => ⟨(u4 r_10.toNatClampNeg), rfl, rfl, ht.trans hH⟩) t_nil dX8_ask_114
              · rw [if_neg c_34] at hR
                by_cases c_48 : w = 3
                · rw [if_pos c_48] at hR
                  refine lv_tableIn (tgt := 115) (off := 63) hx hb dX8_ask_52 (by rw [c_48]; decide) (by rw [c_48]; decide) (by rw [c_48]; decide) (by decide) ?_
                  refine lv_aload hx hb dX8_ask_115 (lv_at hl 1 rfl) ?_
                  refine va_getN (D := (dC, dI)) (ci := 4) (v := .ref z5) (C := RX4) (T := TX4) (N := 7) hx hb hts inc_X8_ask_4 hown hG.1 hP 1 rfl rfl 5 (by decide) (hG.nf (a := RX8) (i := 143) (b := "MappingDesk$Table") (n := "names") (d := "[I") (t := "MappingDesk") (by decide +kernel)) (fun _ h9 => h9) rfl dX8_ask_117 ?_
                  refine lv_iload hx hb dX8_ask_120 (lv_at hl 0 rfl) ?_
                  have b_49 : vp_in r_10 300 := by
                    have k_50 : (0 : Int32).toInt = 0 := by decide
                    have q_51 := i_eq c_1
                    have q_52 := i_ne c_5
                    have q_53 := i_ne c_7
                    have q_54 := i_le c_11
                    have q_55 := i_ne c_12
                    have k_56 : (1 : Int32).toInt = 1 := by decide
                    have q_57 := i_ne c_22
                    have k_58 : (2 : Int32).toInt = 2 := by decide
                    have q_59 := i_ne c_34
                    have k_60 : (3 : Int32).toInt = 3 := by decide
                    have q_61 := i_eq c_48
                    refine vin ?_ ?_
                    all_goals (try generalize Int32.toInt r_10 = z0 at *; try generalize Int32.toInt r_4 = z1 at *; try generalize Int32.toInt r_6 = z2 at *; try generalize Int32.toInt co = z3 at *; try generalize Int32.toInt cz = z4 at *; try generalize Int32.toInt (0 : Int32) = z5 at *; try generalize Int32.toInt (1 : Int32) = z6 at *; try generalize Int32.toInt (2 : Int32) = z7 at *; try generalize Int32.toInt (3 : Int32) = z8 at *; try generalize Int32.toInt w = z9 at *; try generalize Int32.toInt x = z10 at *; omega)
                  refine va_iald hx hb hG.1 hP 7 2 rfl rfl b_49 dX8_ask_122 ?_
                  subst hR
                  exact W.iret (v := (u5 r_10.toNatClampNeg)) hx hb hr (fun t ht hW => ⟨(u5 r_10.toNatClampNeg), rfl, rfl, ht.trans hH⟩) t_nil dX8_ask_123
                · rw [if_neg c_48] at hR
                  by_cases c_64 : w = 4
                  · rw [if_pos c_64] at hR
                    refine lv_tableIn (tgt := 124) (off := 72) hx hb dX8_ask_52 (by rw [c_64]; decide) (by rw [c_64]; decide) (by rw [c_64]; decide) (by decide) ?_
                    refine lv_iload hx hb dX8_ask_124 (lv_at hl 0 rfl) ?_
                    subst hR
                    exact W.iret (v := r_10) hx hb hr (fun t ht hW => ⟨r_10, rfl, rfl, ht.trans hH⟩) t_nil dX8_ask_126
                  · rw [if_neg c_64] at hR
                    refine lv_tableOut (tgt := 127) hx hb dX8_ask_52 (by
                        have q_65 := i_ne c_12
                        have k_66 : (0 : Int32).toInt = 0 := by decide
                        have q_67 := i_ne c_22
                        have k_68 : (1 : Int32).toInt = 1 := by decide
                        have q_69 := i_ne c_34
                        have k_70 : (2 : Int32).toInt = 2 := by decide
                        have q_71 := i_ne c_48
                        have k_72 : (3 : Int32).toInt = 3 := by decide
                        have q_73 := i_ne c_64
                        have k_74 : (4 : Int32).toInt = 4 := by decide
                        omega) (by decide) ?_
                    refine lv_iconst (v := (-1)) hx hb dX8_ask_127 (by decide) ?_
                    subst hR
                    exact W.iret (v := (-1)) hx hb hr (fun t ht hW => ⟨(-1), rfl, rfl, ht.trans hH⟩) t_nil dX8_ask_128
        · rw [if_neg c_11] at hR
          refine lv_iconst (v := (-1)) hx hb dX8_ask_48 (by decide) ?_
          subst hR
          exact W.iret (v := (-1)) hx hb hr (fun t ht hW => ⟨(-1), rfl, rfl, ht.trans hH⟩) t_nil dX8_ask_49
      · rw [if_pos c_7] at hR
        refine lv_iconst (v := (-1)) hx hb dX8_ask_32 (by decide) ?_
        subst hR
        exact W.iret (v := (-1)) hx hb hr (fun t ht hW => ⟨(-1), rfl, rfl, ht.trans hH⟩) t_nil dX8_ask_33
  · rw [if_neg c_1] at hR
    by_cases c_75 : x = 1
    · rw [if_pos c_75] at hR
      have p_76 : ¬ x = 0 := by
        assumption
      have p_77 : x = 1 := by
        assumption
      have hPc := hP.sub (ws' := [(h0, .inr (8, [.ref d0, .ref d1, .ref d2, .ref d3, .ref d4, .ref d5, .ref d6, .int lf]))]) [0] rfl
      have hDc := hD0.sub (ws' := [(h0, .inr (8, [.ref d0, .ref d1, .ref d2, .ref d3, .ref d4, .ref d5, .ref d6, .int lf]))]) [0] (by decide) rfl
      refine va_csr (va_Run.run (va_runV (As := [.int x]) (rest := []) ⟨hx, hb, hml, hown, hts⟩ (c_X8_tableOf_1 l dC dI cB cC cI cJ H.size h0 d0 d1 d2 d3 d4 d5 d6 lf x p_76 p_77) (cwV 1 hts gX8_ask_X8_tableOf rfl rfl rfl (by decide +kernel) ⟨(Nat.le_of_ble_eq_true rfl), (Nat.le_of_ble_eq_true rfl)⟩) ⟨cP_blind, va_recv hG.1 hPc (ci := 8) (q0 := 0) rfl rfl, cP_pre hPc hG hDc⟩ rfl rfl hl.1 rfl (lv_room (Nat.le_of_ble_eq_true rfl)) dX8_ask_2 ⟨Nat.le_of_ble_eq_true rfl, Nat.le_of_ble_eq_true rfl⟩)) (fun r_78 hr_78 => ?_)
      show W _ _ _ _ _ _ _ _ _ _ _ _ _ _ _ (F0 m 5 ls (.ref d5 :: []))
      refine lv_astore (lv' := [(5, .ref d5), (0, .ref h0), (1, .int x), (2, .int y), (3, .int z), (4, .int w)]) hx hb dX8_ask_5 hl (by decide) rfl (fun ls hl => ?_)
      refine lv_aload hx hb dX8_ask_7 (lv_at hl 0 rfl) ?_
      refine lv_ifnull hx hb dX8_ask_9 ?_
      refine lv_iload_n hx hb dX8_ask_12 rfl (lv_at hl 3 rfl) ?_
      refine lv_i2l hx hb dX8_ask_13 rfl ?_
      refine lv_ldc (v := 999999) hx hb hown (hts (.constant RX8 124 999999) (by decide +kernel)) dX8_ask_14 ?_
      have hPc := hP.sub (ws' := []) [] rfl
      have hDc := hD0.sub (ws' := []) [] (by decide) rfl
      refine vp_callSi (va_Run.run (va_runS (As := [.long ((y : Int32).toInt64), .int 999999]) (rest := []) ⟨hx, hb, hml, hown, hts⟩ (c_X8_isWithin l dC dI cB cC cI cJ H.size ((y : Int32).toInt64) 999999 ) (va_cwS 2 hts gX8_ask_X8_isWithin rfl rfl rfl (by decide +kernel) ⟨(Nat.le_of_ble_eq_true rfl), (Nat.le_of_ble_eq_true rfl)⟩) ⟨cP_blind, cP_pre hPc hG hDc⟩ rfl rfl hl.1 rfl (lv_room (Nat.le_of_ble_eq_true rfl)) dX8_ask_16 ⟨Nat.le_of_ble_eq_true rfl, Nat.le_of_ble_eq_true rfl⟩)) (fun r_79 hr_79 => ?_)
      rw [bnd_eq hr_79.symm] at hR
      refine lv_if_eq (tgt := 32) hx hb dX8_ask_19 (by decide) (fun c_80 => ?_) (fun c_80 => ?_)
      · rw [if_pos c_80] at hR
        refine lv_iconst (v := (-1)) hx hb dX8_ask_32 (by decide) ?_
        subst hR
        exact W.iret (v := (-1)) hx hb hr (fun t ht hW => ⟨(-1), rfl, rfl, ht.trans hH⟩) t_nil dX8_ask_33
      · rw [if_neg c_80] at hR
        refine lv_iload_n hx hb dX8_ask_22 rfl (lv_at hl 4 rfl) ?_
        refine lv_i2l hx hb dX8_ask_23 rfl ?_
        refine lv_ldc (v := 999999) hx hb hown (hts (.constant RX8 124 999999) (by decide +kernel)) dX8_ask_24 ?_
        have hPc := hP.sub (ws' := []) [] rfl
        have hDc := hD0.sub (ws' := []) [] (by decide) rfl
        refine vp_callSi (va_Run.run (va_runS (As := [.long ((z : Int32).toInt64), .int 999999]) (rest := []) ⟨hx, hb, hml, hown, hts⟩ (c_X8_isWithin l dC dI cB cC cI cJ H.size ((z : Int32).toInt64) 999999 ) (va_cwS 2 hts gX8_ask_X8_isWithin rfl rfl rfl (by decide +kernel) ⟨(Nat.le_of_ble_eq_true rfl), (Nat.le_of_ble_eq_true rfl)⟩) ⟨cP_blind, cP_pre hPc hG hDc⟩ rfl rfl hl.1 rfl (lv_room (Nat.le_of_ble_eq_true rfl)) dX8_ask_26 ⟨Nat.le_of_ble_eq_true rfl, Nat.le_of_ble_eq_true rfl⟩)) (fun r_81 hr_81 => ?_)
        rw [bnd_eq hr_81.symm] at hR
        refine lv_if_ne (tgt := 34) hx hb dX8_ask_29 (by decide) (fun c_82 => ?_) (fun c_82 => ?_)
        · rw [if_neg c_82] at hR
          refine lv_aload hx hb dX8_ask_34 (lv_at hl 0 rfl) ?_
          refine lv_iload_n hx hb dX8_ask_36 rfl (lv_at hl 3 rfl) ?_
          refine lv_iload_n hx hb dX8_ask_37 rfl (lv_at hl 4 rfl) ?_
          have p_83 : 0 ≤ co.toInt := by
            first | exact ho0 | assumption
          have p_84 : co.toInt ≤ 300 := by
            first | exact ho1 | assumption
          have hPc := hP.sub (ws' := [(d5, .inr (4, [.ref o0, .ref o1, .ref o2, .ref o3, .ref o4, .ref o5, .int co])), (o0, .inl (cI, 300, .inl v0)), (o1, .inl (cI, 300, .inl v1)), (o2, .inl (cI, 300, .inl v2))]) [8, 9, 10, 11] rfl
          have hDc := hD0.sub (ws' := [(d5, .inr (4, [.ref o0, .ref o1, .ref o2, .ref o3, .ref o4, .ref o5, .int co])), (o0, .inl (cI, 300, .inl v0)), (o1, .inl (cI, 300, .inl v1)), (o2, .inl (cI, 300, .inl v2))]) [8, 9, 10, 11] (by decide) rfl
          refine vp_callSi (va_Run.run (va_runVN (C := RX4) (As := [.int y, .int z]) (rest := []) ⟨hx, hb, hml, hown, hts⟩ (c_X4_findTelling l dC dI cB cC cI cJ H.size d5 o0 o1 o2 o3 o4 o5 co v0 v1 v2 y z p_83 p_84) ⟨va_cnB 2 hts gX8_ask_X4_findTelling_n129 rfl rfl rfl (hG.nm (A := #[]) (w := .methodLinkNest RX8 129 yX4_findTelling "MappingDesk") (by decide +kernel)) (hts (.initialized RX4) (by decide +kernel)) (by decide +kernel) ⟨(Nat.le_of_ble_eq_true rfl), (Nat.le_of_ble_eq_true rfl)⟩, hts (.instanceMethod yX4_findTelling) (by decide +kernel), hts (.selects RX4 yX4_findTelling yX4_findTelling) (by decide +kernel)⟩ ⟨cP_blind, va_recv hG.1 hPc (ci := 4) (q0 := 0) rfl rfl, cP_pre hPc hG hDc⟩ rfl rfl hl.1 rfl (lv_room (Nat.le_of_ble_eq_true rfl)) dX8_ask_38 ⟨Nat.le_of_ble_eq_true rfl, Nat.le_of_ble_eq_true rfl⟩)) (fun r_85 hr_85 => ?_)
          obtain ⟨hr_85, er_85_0⟩ := hr_85
          rw [← hr_85] at er_85_0
          rw [bnd_eq hr_85.symm] at hR
          refine lv_istore (lv' := [(6, .int r_85), (5, .ref d5), (0, .ref h0), (1, .int x), (2, .int y), (3, .int z), (4, .int w)]) hx hb dX8_ask_41 hl (by decide) rfl (fun ls hl => ?_)
          refine lv_iload hx hb dX8_ask_43 (lv_at hl 0 rfl) ?_
          refine lv_if_ge (tgt := 50) hx hb dX8_ask_45 (by decide) (fun c_86 => ?_) (fun c_86 => ?_)
          · rw [if_pos c_86] at hR
            refine lv_iload hx hb dX8_ask_50 (lv_at hl 6 rfl) ?_
            by_cases c_87 : w = 0
            · rw [if_pos c_87] at hR
              refine lv_tableIn (tgt := 88) (off := 36) hx hb dX8_ask_52 (by rw [c_87]; decide) (by rw [c_87]; decide) (by rw [c_87]; decide) (by decide) ?_
              refine lv_aload hx hb dX8_ask_88 (lv_at hl 1 rfl) ?_
              refine va_getN (D := (dC, dI)) (ci := 4) (v := .ref o2) (C := RX4) (T := TX4) (N := 7) hx hb hts inc_X8_ask_4 hown hG.1 hP 8 rfl rfl 2 (by decide) (hG.nf (a := RX8) (i := 133) (b := "MappingDesk$Table") (n := "sources") (d := "[I") (t := "MappingDesk") (by decide +kernel)) (fun _ h9 => h9) rfl dX8_ask_90 ?_
              refine lv_iload hx hb dX8_ask_93 (lv_at hl 0 rfl) ?_
              have b_88 : vp_in r_85 300 := by
                have k_89 : (0 : Int32).toInt = 0 := by decide
                have q_90 := i_ne c_1
                have k_91 : (1 : Int32).toInt = 1 := by decide
                have q_92 := i_eq c_75
                have q_93 := i_ne c_80
                have q_94 := i_ne c_82
                have q_95 := i_le c_86
                have q_96 := i_eq c_87
                refine vin ?_ ?_
                all_goals (try generalize Int32.toInt r_79 = z0 at *; try generalize Int32.toInt r_81 = z1 at *; try generalize Int32.toInt r_85 = z2 at *; try generalize Int32.toInt co = z3 at *; try generalize Int32.toInt cz = z4 at *; try generalize Int32.toInt (0 : Int32) = z5 at *; try generalize Int32.toInt (1 : Int32) = z6 at *; try generalize Int32.toInt w = z7 at *; try generalize Int32.toInt x = z8 at *; omega)
              refine va_iald hx hb hG.1 hP 11 2 rfl rfl b_88 dX8_ask_95 ?_
              subst hR
              exact W.iret (v := (v2 r_85.toNatClampNeg)) hx hb hr (fun t ht hW => ⟨(v2 r_85.toNatClampNeg), rfl, rfl, ht.trans hH⟩) t_nil dX8_ask_96
            · rw [if_neg c_87] at hR
              by_cases c_99 : w = 1
              · rw [if_pos c_99] at hR
                refine lv_tableIn (tgt := 97) (off := 45) hx hb dX8_ask_52 (by rw [c_99]; decide) (by rw [c_99]; decide) (by rw [c_99]; decide) (by decide) ?_
                refine lv_aload hx hb dX8_ask_97 (lv_at hl 1 rfl) ?_
                refine va_getN (D := (dC, dI)) (ci := 4) (v := .ref o3) (C := RX4) (T := TX4) (N := 7) hx hb hts inc_X8_ask_4 hown hG.1 hP 8 rfl rfl 3 (by decide) (hG.nf (a := RX8) (i := 137) (b := "MappingDesk$Table") (n := "sourceLines") (d := "[I") (t := "MappingDesk") (by decide +kernel)) (fun _ h9 => h9) rfl dX8_ask_99 ?_
                refine lv_iload hx hb dX8_ask_102 (lv_at hl 0 rfl) ?_
                have b_100 : vp_in r_85 300 := by
                  have k_101 : (0 : Int32).toInt = 0 := by decide
                  have q_102 := i_ne c_1
                  have k_103 : (1 : Int32).toInt = 1 := by decide
                  have q_104 := i_eq c_75
                  have q_105 := i_ne c_80
                  have q_106 := i_ne c_82
                  have q_107 := i_le c_86
                  have q_108 := i_ne c_87
                  have q_109 := i_eq c_99
                  refine vin ?_ ?_
                  all_goals (try generalize Int32.toInt r_79 = z0 at *; try generalize Int32.toInt r_81 = z1 at *; try generalize Int32.toInt r_85 = z2 at *; try generalize Int32.toInt co = z3 at *; try generalize Int32.toInt cz = z4 at *; try generalize Int32.toInt (0 : Int32) = z5 at *; try generalize Int32.toInt (1 : Int32) = z6 at *; try generalize Int32.toInt w = z7 at *; try generalize Int32.toInt x = z8 at *; omega)
                refine va_iald hx hb hG.1 hP 12 2 rfl rfl b_100 dX8_ask_104 ?_
                subst hR
                exact W.iret (v := (v3 r_85.toNatClampNeg)) hx hb hr (fun t ht hW => ⟨(v3 r_85.toNatClampNeg), rfl, rfl, ht.trans hH⟩) t_nil dX8_ask_105
              · rw [if_neg c_99] at hR
                by_cases c_112 : w = 2
                · rw [if_pos c_112] at hR
                  refine lv_tableIn (tgt := 106) (off := 54) hx hb dX8_ask_52 (by rw [c_112]; decide) (by rw [c_112]; decide) (by rw [c_112]; decide) (by decide) ?_
                  refine lv_aload hx hb dX8_ask_106 (lv_at hl 1 rfl) ?_
                  refine va_getN (D := (dC, dI)) (ci := 4) (v := .ref o4) (C := RX4) (T := TX4) (N := 7) hx hb hts inc_X8_ask_4 hown hG.1 hP 8 rfl rfl 4 (by decide) (hG.nf (a := RX8) (i := 140) (b := "MappingDesk$Table") (n := "sourceColumns") (d := "[I") (t := "MappingDesk") (by decide +kernel)) (fun _ h9 => h9) rfl dX8_ask_108 ?_
                  refine lv_iload hx hb dX8_ask_111 (lv_at hl 0 rfl) ?_
                  have b_113 : vp_in r_85 300 := by
                    have k_114 : (0 : Int32).toInt = 0 := by decide
                    have q_115 := i_ne c_1
                    have k_116 : (1 : Int32).toInt = 1 := by decide
                    have q_117 := i_eq c_75
                    have q_118 := i_ne c_80
                    have q_119 := i_ne c_82
                    have q_120 := i_le c_86
                    have q_121 := i_ne c_87
                    have q_122 := i_ne c_99
                    have k_123 : (2 : Int32).toInt = 2 := by decide
                    have q_124 := i_eq c_112
                    refine vin ?_ ?_
                    all_goals (try generalize Int32.toInt r_79 = z0 at *; try generalize Int32.toInt r_81 = z1 at *; try generalize Int32.toInt r_85 = z2 at *; try generalize Int32.toInt co = z3 at *; try generalize Int32.toInt cz = z4 at *; try generalize Int32.toInt (0 : Int32) = z5 at *; try generalize Int32.toInt (1 : Int32) = z6 at *; try generalize Int32.toInt (2 : Int32) = z7 at *; try generalize Int32.toInt w = z8 at *; try generalize Int32.toInt x = z9 at *; omega)
                  refine va_iald hx hb hG.1 hP 13 2 rfl rfl b_113 dX8_ask_113 ?_
                  subst hR
                  exact W.iret (v := (v4 r_85.toNatClampNeg)) hx hb hr (fun t ht hW => ⟨(v4 r_85.toNatClampNeg), rfl, rfl, ht.trans hH⟩) t_nil dX8_ask_114
                · rw [if_neg c_112] at hR
                  by_cases c_127 : w = 3
                  · rw [if_pos c_127] at hR
                    refine lv_tableIn (tgt := 115) (off := 63) hx hb dX8_ask_52 (by rw [c_127]; decide) (by rw [c_127]; decide) (by rw [c_127]; decide) (by decide) ?_
                    refine lv_aload hx hb dX8_ask_115 (lv_at hl 1 rfl) ?_
                    refine va_getN (D := (dC, dI)) (ci := 4) (v := .ref o5) (C := RX4) (T := TX4) (N := 7) hx hb hts inc_X8_ask_4 hown hG.1 hP 8 rfl rfl 5 (by decide) (hG.nf (a := RX8) (i := 143) (b := "MappingDesk$Table") (n := "names") (d := "[I") (t := "MappingDesk") (by decide +kernel)) (fun _ h9 => h9) rfl dX8_ask_117 ?_
                    refine lv_iload hx hb dX8_ask_120 (lv_at hl 0 rfl) ?_
                    have b_128 : vp_in r_85 300 := by
                      have k_129 : (0 : Int32).toInt = 0 := by decide
                      have q_130 := i_ne c_1
                      have k_131 : (1 : Int32).toInt = 1 := by decide
                      have q_132 := i_eq c_75
                      have q_133 := i_ne c_80
                      have q_134 := i_ne c_82
                      have q_135 := i_le c_86
                      have q_136 := i_ne c_87
                      have q_137 := i_ne c_99
                      have k_138 : (2 : Int32).toInt = 2 := by decide
                      have q_139 := i_ne c_112
                      have k_140 : (3 : Int32).toInt = 3 := by decide
                      have q_141 := i_eq c_127
                      refine vin ?_ ?_
                      all_goals (try generalize Int32.toInt r_79 = z0 at *; try generalize Int32.toInt r_81 = z1 at *; try generalize Int32.toInt r_85 = z2 at *; try generalize Int32.toInt co = z3 at *; try generalize Int32.toInt cz = z4 at *; try generalize Int32.toInt (0 : Int32) = z5 at *; try generalize Int32.toInt (1 : Int32) = z6 at *; try generalize Int32.toInt (2 : Int32) = z7 at *; try generalize Int32.toInt (3 : Int32) = z8 at *; try generalize Int32.toInt w = z9 at *; try generalize Int32.toInt x = z10 at *; omega)
                    refine va_iald hx hb hG.1 hP 14 2 rfl rfl b_128 dX8_ask_122 ?_
                    subst hR
                    exact W.iret (v := (v5 r_85.toNatClampNeg)) hx hb hr (fun t ht hW => ⟨(v5 r_85.toNatClampNeg), rfl, rfl, ht.trans hH⟩) t_nil dX8_ask_123
                  · rw [if_neg c_127] at hR
                    by_cases c_144 : w = 4
                    · rw [if_pos c_144] at hR
                      refine lv_tableIn (tgt := 124) (off := 72) hx hb dX8_ask_52 (by rw [c_144]; decide) (by rw [c_144]; decide) (by rw [c_144]; decide) (by decide) ?_
                      refine lv_iload hx hb dX8_ask_124 (lv_at hl 0 rfl) ?_
                      subst hR
                      exact W.iret (v := r_85) hx hb hr (fun t ht hW => ⟨r_85, rfl, rfl, ht.trans hH⟩) t_nil dX8_ask_126
                    · rw [if_neg c_144] at hR
                      refine lv_tableOut (tgt := 127) hx hb dX8_ask_52 (by
                          have q_145 := i_ne c_87
                          have k_146 : (0 : Int32).toInt = 0 := by decide
                          have q_147 := i_ne c_99
                          have k_148 : (1 : Int32).toInt = 1 := by decide
                          have q_149 := i_ne c_112
                          have k_150 : (2 : Int32).toInt = 2 := by decide
                          have q_151 := i_ne c_127
                          have k_152 : (3 : Int32).toInt = 3 := by decide
                          have q_153 := i_ne c_144
                          have k_154 : (4 : Int32).toInt = 4 := by decide
                          omega) (by decide) ?_
                      refine lv_iconst (v := (-1)) hx hb dX8_ask_127 (by decide) ?_
                      subst hR
                      exact W.iret (v := (-1)) hx hb hr (fun t ht hW => ⟨(-1), rfl, rfl, ht.trans hH⟩) t_nil dX8_ask_128
          · rw [if_neg c_86] at hR
            refine lv_iconst (v := (-1)) hx hb dX8_ask_48 (by decide) ?_
            subst hR
            exact W.iret (v := (-1)) hx hb hr (fun t ht hW => ⟨(-1), rfl, rfl, ht.trans hH⟩) t_nil dX8_ask_49
        · rw [if_pos c_82] at hR
          refine lv_iconst (v := (-1)) hx hb dX8_ask_32 (by decide) ?_
          subst hR
          exact W.iret (v := (-1)) hx hb hr (fun t ht hW => ⟨(-1), rfl, rfl, ht.trans hH⟩) t_nil dX8_ask_33
    · rw [if_neg c_75] at hR
      have p_155 : ¬ x = 0 := by
        assumption
      have p_156 : ¬ x = 1 := by
        assumption
      have hPc := hP.sub (ws' := [(h0, .inr (8, [.ref d0, .ref d1, .ref d2, .ref d3, .ref d4, .ref d5, .ref d6, .int lf]))]) [0] rfl
      have hDc := hD0.sub (ws' := [(h0, .inr (8, [.ref d0, .ref d1, .ref d2, .ref d3, .ref d4, .ref d5, .ref d6, .int lf]))]) [0] (by decide) rfl
      refine va_csr (va_Run.run (va_runV (As := [.int x]) (rest := []) ⟨hx, hb, hml, hown, hts⟩ (c_X8_tableOf_n l dC dI cB cC cI cJ H.size h0 d0 d1 d2 d3 d4 d5 d6 lf x p_155 p_156) (cwV 1 hts gX8_ask_X8_tableOf rfl rfl rfl (by decide +kernel) ⟨(Nat.le_of_ble_eq_true rfl), (Nat.le_of_ble_eq_true rfl)⟩) ⟨cP_blind, va_recv hG.1 hPc (ci := 8) (q0 := 0) rfl rfl, cP_pre hPc hG hDc⟩ rfl rfl hl.1 rfl (lv_room (Nat.le_of_ble_eq_true rfl)) dX8_ask_2 ⟨Nat.le_of_ble_eq_true rfl, Nat.le_of_ble_eq_true rfl⟩)) (fun r_157 hr_157 => ?_)
      show W _ _ _ _ _ _ _ _ _ _ _ _ _ _ _ (F0 m 5 ls (.null :: []))
      refine lv_astoreN (lv' := [(5, .null), (0, .ref h0), (1, .int x), (2, .int y), (3, .int z), (4, .int w)]) hx hb dX8_ask_5 hl (by decide) rfl (fun ls hl => ?_)
      refine lv_aloadN hx hb dX8_ask_7 (lv_at hl 0 rfl) ?_
      refine lv_ifnullN (tgt := 32) hx hb dX8_ask_9 (by decide) ?_
      refine lv_iconst (v := (-1)) hx hb dX8_ask_32 (by decide) ?_
      subst hR
      exact W.iret (v := (-1)) hx hb hr (fun t ht hW => ⟨(-1), rfl, rfl, ht.trans hH⟩) t_nil dX8_ask_33
