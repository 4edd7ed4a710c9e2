set_option maxHeartbeats 4000000 in
set_option maxRecDepth 100000 in
theorem law_loop {p : Program} {l : Launch} {e : Env} {s : State} {m : MethodId} {below : List Frame} {meth : Method} {c : Code} {b L : Nat} {xs : Nat → Int32} {A : Nat → Prop} {dC : Nat → ClassId} {dI : Nat → Nat → Nat} {cB cC cI cJ : ClassId} {ak av  : Nat} (hx : p.tables.exec = Jvm.exec) (hb : c.code = cL_law) (hml : c.maxLocals = 7) (hown : s.vm.findClass RL = some m.cls) (hts : ∀ w ∈ wsL_law, w.before #[Value.ref b] s = true) (hX : va_X b L xs s s.heap) (hbl : b < s.heap.size) (hA : ∀ q, s.heap.size ≤ q → A q) (hbA : ¬ A b) (hG : gk dC dI cB cC cI cJ s) (hSK : SK ak av A s s.heap) (hSR : vk_R RX2 92 DIG ak s ∧ vk_R RX6 23 DIG ak s) (hXK : XK A s s.heap) (hl9 : l.stackTraces = false) (hL : L ≤ 4096) (hr : meth.sig.returnType = ret) (hlocks : meth.locks = false) (hAs : ∀ q, A q → s.heap.size ≤ q) {h0 m0 p0 : Nat} : ∀ (n it : Nat), 8 * it ≤ L → L - 8 * it < n → ∀ (H : Heap) (locs : List Loc) (ls : Array Slot), LW dC dI cB cC cI cJ A h0 m0 p0 H → va_S A s.heap H locs → lv_has ls 7 [(0, .ref b), (1, .ref h0), (2, .ref m0), (3, .ref p0), (4, .int (nI (8 * it)))] → W p l e room_1 s m #[Value.ref b] below meth c H locs (47 + it) (40922 + 6 * it) (lw_Z below #[Value.ref b] s) (F0 m 23 ls []) := by
  intro n
  induction n with
  | zero => intro it h1 h2; exact absurd h2 (by omega)
  | succ n ih =>
    intro it hit hn H locs ls hW hS hl
    have hx4 : (nI (8 * it)).toInt = ((8 * it : Nat) : Int) := nI_toInt (by omega)
    have hxL : (Int32.ofNat L).toInt = (L : Int) := nI_toInt (n := L) (by omega)
    have hx8 : (Int32.ofNat L - 8).toInt = (L : Int) - 8 := by rw [ti_sub (by rw [hxL, show (8 : Int32).toInt = 8 from by decide]; omega) (by rw [hxL, show (8 : Int32).toInt = 8 from by decide]; omega), hxL, show (8 : Int32).toInt = 8 from by decide]
    refine lv_iload hx hb dL_law_23 (lv_at hl 4 rfl) ?_
    refine lv_aload_n hx hb dL_law_25 rfl (lv_at hl 0 rfl) ?_
    refine va_slen hx hb hX hbl hbA hS dL_law_26 ?_
    refine lv_bipush (v := 8) hx hb dL_law_27 (by decide) ?_
    refine lv_isub hx hb dL_law_29 ?_
    refine lv_icmp_gt (tgt := 520) hx hb dL_law_30 (by decide) (fun c1 => ?_) (fun c1 => ?_)
    · refine va_forget (fun q hq => hAs _ (hS.2.2 q hq)) ?_
      refine W.widen (k := 1072) (n := 49120) (by omega) (by omega) ?_
      refine lv_iconst (v := 1) hx hb dL_law_520 (by decide) ?_
      exact lw_ret hx hb hr hlocks dL_law_521
    · have c1 := i_nlt c1
      have hc : 8 * it + 8 ≤ L := by omega
      refine lv_aload_n hx hb dL_law_33 rfl (lv_at hl 0 rfl) ?_
      refine lv_iload hx hb dL_law_34 (lv_at hl 4 rfl) ?_
      refine va_sld hx hb hX hbl hbA hS (vin (by omega) (by omega)) dL_law_36 ?_
      refine lv_bipush (v := 15) hx hb dL_law_37 (by decide) ?_
      refine lv_iand hx hb dL_law_39 ?_
      generalize (xs (nI (8 * it)).toNatClampNeg &&& 15) = sw
      have kk : ∀ (H : Heap) (locs : List Loc) (ls : Array Slot), LW dC dI cB cC cI cJ A h0 m0 p0 H → va_S A s.heap H locs → lv_has ls 7 [(0, .ref b), (1, .ref h0), (2, .ref m0), (3, .ref p0), (4, .int (nI (8 * it)))] → W p l e room_1 s m #[Value.ref b] below meth c H locs (47 + it + 1) (40922 + 6 * it + 6) (lw_Z below #[Value.ref b] s) (F0 m 514 ls []) := by
        intro H locs ls hW hS hl
        refine lv_iinc (v := nI (8 * (it + 1))) (lv' := [(4, .int (nI (8 * (it + 1)))), (0, .ref b), (1, .ref h0), (2, .ref m0), (3, .ref p0)]) hx hb dL_law_514 hl (k := 4) rfl (by rw [show 8 * (it + 1) = 8 * it + 8 from by omega, ← nI_add]; rfl) (by decide) rfl (fun ls hl => ?_)
        refine lv_goto (tgt := 23) hx hb dL_law_517 (by decide) ?_
        refine W.widen (k := 47 + (it + 1)) (n := 40922 + 6 * (it + 1)) (by omega) (by omega) ?_
        exact ih (it + 1) (by omega) (by omega) H locs ls hW hS (lv_sub hl [1, 2, 3, 4, 0] rfl)
      have hkc : 47 + it + 1 ≤ room_1.cells := by show 47 + it + 1 ≤ 1072; omega
      have hnc : 40922 + 6 * it + 6 ≤ room_1.slots := by show 40922 + 6 * it + 6 ≤ 49120; omega
      have hx0 : 0 ≤ (nI (8 * it)).toInt := by omega
      have hx1 : (nI (8 * it)).toInt + 8 ≤ (L : Int) := by omega
      by_cases c_0 : sw = 0
      · refine lv_tableIn (tgt := 100) (off := 60) hx hb dL_law_40 (by rw [c_0]; decide) (by rw [c_0]; decide) (by rw [c_0]; decide) (by decide) ?_
        exact lw_feed hx hb hml hown hts hX hbl hA hbA hG hSK hSR hXK hl9 hkc hnc hx0 hx1 hL hW hS hl kk
      by_cases c_1 : sw = 1
      · refine lv_tableIn (tgt := 173) (off := 133) hx hb dL_law_40 (by rw [c_1]; decide) (by rw [c_1]; decide) (by rw [c_1]; decide) (by decide) ?_
        exact lw_end hx hb hml hown hts hX hbl hA hbA hG hSK hSR hXK hl9 hkc hnc hx0 hx1 hL hW hS hl kk
      by_cases c_2 : sw = 2
      · refine lv_tableIn (tgt := 198) (off := 158) hx hb dL_law_40 (by rw [c_2]; decide) (by rw [c_2]; decide) (by rw [c_2]; decide) (by decide) ?_
        exact lw_read hx hb hml hown hts hX hbl hA hbA hG hSK hSR hXK hl9 hkc hnc hx0 hx1 hL hW hS hl kk
      by_cases c_3 : sw = 3
      · refine lv_tableIn (tgt := 223) (off := 183) hx hb dL_law_40 (by rw [c_3]; decide) (by rw [c_3]; decide) (by rw [c_3]; decide) (by decide) ?_
        exact lw_fault hx hb hml hown hts hX hbl hA hbA hG hSK hSR hXK hl9 hkc hnc hx0 hx1 hL hW hS hl kk
      by_cases c_4 : sw = 4
      · refine lv_tableIn (tgt := 236) (off := 196) hx hb dL_law_40 (by rw [c_4]; decide) (by rw [c_4]; decide) (by rw [c_4]; decide) (by decide) ?_
        exact lw_put hx hb hml hown hts hX hbl hA hbA hG hSK hSR hXK hl9 hkc hnc hx0 hx1 hL hW hS hl kk
      by_cases c_5 : sw = 5
      · refine lv_tableIn (tgt := 337) (off := 297) hx hb dL_law_40 (by rw [c_5]; decide) (by rw [c_5]; decide) (by rw [c_5]; decide) (by decide) ?_
        exact lw_write hx hb hml hown hts hX hbl hA hbA hG hSK hSR hXK hl9 hkc hnc hx0 hx1 hL hW hS hl kk
      by_cases c_6 : sw = 6
      · refine lv_tableIn (tgt := 362) (off := 322) hx hb dL_law_40 (by rw [c_6]; decide) (by rw [c_6]; decide) (by rw [c_6]; decide) (by decide) ?_
        exact lw_textAt hx hb hml hown hts hX hbl hA hbA hG hSK hSR hXK hl9 hkc hnc hx0 hx1 hL hW hS hl kk
      by_cases c_7 : sw = 7
      · refine lv_tableIn (tgt := 390) (off := 350) hx hb dL_law_40 (by rw [c_7]; decide) (by rw [c_7]; decide) (by rw [c_7]; decide) (by decide) ?_
        exact lw_ask hx hb hml hown hts hX hbl hA hbA hG hSK hSR hXK hl9 hkc hnc hx0 hx1 hL hW hS hl kk
      by_cases c_8 : sw = 8
      · refine lv_tableIn (tgt := 451) (off := 411) hx hb dL_law_40 (by rw [c_8]; decide) (by rw [c_8]; decide) (by rw [c_8]; decide) (by decide) ?_
        exact lw_compose hx hb hml hown hts hX hbl hA hbA hG hSK hSR hXK hl9 hkc hnc hx0 hx1 hL hW hS hl kk
      by_cases c_9 : sw = 9
      · refine lv_tableIn (tgt := 464) (off := 424) hx hb dL_law_40 (by rw [c_9]; decide) (by rw [c_9]; decide) (by rw [c_9]; decide) (by decide) ?_
        exact lw_size hx hb hml hown hts hX hbl hA hbA hG hSK hSR hXK hl9 hkc hnc hx0 hx1 hL hW hS hl kk
      by_cases c_10 : sw = 10
      · refine lv_tableIn (tgt := 489) (off := 449) hx hb dL_law_40 (by rw [c_10]; decide) (by rw [c_10]; decide) (by rw [c_10]; decide) (by decide) ?_
        exact lw_clear hx hb hml hown hts hX hbl hA hbA hG hSK hSR hXK hl9 hkc hnc hx0 hx1 hL hW hS hl kk
      have q_0 := i_ne c_0
      rw [show (0 : Int32).toInt = 0 from by decide] at q_0
      have q_1 := i_ne c_1
      rw [show (1 : Int32).toInt = 1 from by decide] at q_1
      have q_2 := i_ne c_2
      rw [show (2 : Int32).toInt = 2 from by decide] at q_2
      have q_3 := i_ne c_3
      rw [show (3 : Int32).toInt = 3 from by decide] at q_3
      have q_4 := i_ne c_4
      rw [show (4 : Int32).toInt = 4 from by decide] at q_4
      have q_5 := i_ne c_5
      rw [show (5 : Int32).toInt = 5 from by decide] at q_5
      have q_6 := i_ne c_6
      rw [show (6 : Int32).toInt = 6 from by decide] at q_6
      have q_7 := i_ne c_7
      rw [show (7 : Int32).toInt = 7 from by decide] at q_7
      have q_8 := i_ne c_8
      rw [show (8 : Int32).toInt = 8 from by decide] at q_8
      have q_9 := i_ne c_9
      rw [show (9 : Int32).toInt = 9 from by decide] at q_9
      have q_10 := i_ne c_10
      rw [show (10 : Int32).toInt = 10 from by decide] at q_10
      refine lv_tableOut (tgt := 514) hx hb dL_law_40 (by omega) (by decide) ?_
      refine W.widen (k := 47 + it + 1) (n := 40922 + 6 * it + 6) (by omega) (by omega) ?_
      exact kk H locs ls hW hS hl
