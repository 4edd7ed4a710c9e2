def fX9_addNumber_26 (th dc tl xl fo fa mn ft wl : Int32) (wr : Nat → Int32) (x : Int32) : Nat → Int64 → Int32 → (Nat → Int32) → Int32 → Int32 → Int32 × Int32 × (Nat → Int32)
  | 0, _, _, _, _, _ => (0, 0, (fun _ => 0))
  | n + 1, xx, mo, wz, wlz, ftz =>
    if mo = 0 then
      (ftz, wlz, wz)
    else
      if (lg_cmp ((xx : Int64) >>> ((5 : Int32).toInt64 &&& 63)) 0) ≤ 0 then
        bnd (fX9_letter (((xx &&& 31) : Int64).toInt32)) fun r_7 =>
        bnd (fX9_add th dc tl xl fo fa mn ftz wlz wz r_7) fun r_10 =>
        fX9_addNumber_26 th dc tl xl fo fa mn ft wl wr x n ((xx : Int64) >>> ((5 : Int32).toInt64 &&& 63)) 0 r_10.2.2 r_10.2.1 r_10.1
      else
        bnd (fX9_letter ((((xx &&& 31) : Int64).toInt32) + 32)) fun r_36 =>
        bnd (fX9_add th dc tl xl fo fa mn ftz wlz wz r_36) fun r_39 =>
        fX9_addNumber_26 th dc tl xl fo fa mn ft wl wr x n ((xx : Int64) >>> ((5 : Int32).toInt64 &&& 63)) 1 r_39.2.2 r_39.2.1 r_39.1
def fX9_addNumber (th dc tl xl fo fa mn ft wl : Int32) (wr : Nat → Int32) (x : Int32) : Int32 × Int32 × (Nat → Int32) :=
  if 0 ≤ x then
    fX9_addNumber_26 th dc tl xl fo fa mn ft wl wr x 10 (((x : Int32).toInt64) * 2) 1 wr wl ft
  else
    fX9_addNumber_26 th dc tl xl fo fa mn ft wl wr x 10 (((-((x : Int32).toInt64)) * 2) + 1) 1 wr wl ft
set_option maxHeartbeats 4000000 in
set_option maxRecDepth 100000 in
theorem c_X9_addNumber (l : Launch) (dC : Nat → ClassId) (dI : Nat → Nat → Nat) (cB cC cI cJ : ClassId) (sz : Nat) (h0 a0 a1 a2 a3 a4 a5 a6 a7 : Nat) (th dc tl xl fo fa mn ft wl : Int32) (wr : Nat → Int32) (x : Int32) (hw0 : 0 ≤ wl.toInt) (hw1 : wl.toInt ≤ 6000) : Met l yX9_addNumber wsX9_addNumber ({ frames := 1, cells := 0, slots := 0, locals := 21 } : Room) (cP dC dI cB cC cI cJ [.ref h0, .int x] sz [(h0, .inr (9, [.int th, .ref a0, .ref a1, .ref a2, .int dc, .ref a3, .int tl, .ref a4, .int xl, .int fo, .int fa, .ref a5, .int mn, .ref a6, .int ft, .ref a7, .int wl])), (a7, .inl (cB, 6000, .inl wr))]) (va_Qv (fun _ => (0 ≤ (fX9_addNumber th dc tl xl fo fa mn ft wl wr x).2.1.toInt ∧ (fX9_addNumber th dc tl xl fo fa mn ft wl wr x).2.1.toInt ≤ 6000)) (cE dC dI (va_A [(h0, .inr (9, [.int th, .ref a0, .ref a1, .ref a2, .int dc, .ref a3, .int tl, .ref a4, .int xl, .int fo, .int fa, .ref a5, .int mn, .ref a6, .int ft, .ref a7, .int wl])), (a7, .inl (cB, 6000, .inl wr))] sz) [(h0, .inr (9, [.int th, .ref a0, .ref a1, .ref a2, .int dc, .ref a3, .int tl, .ref a4, .int xl, .int fo, .int fa, .ref a5, .int mn, .ref a6, .int (fX9_addNumber th dc tl xl fo fa mn ft wl wr x).1, .ref a7, .int (fX9_addNumber th dc tl xl fo fa mn ft wl wr x).2.1])), (a7, .inl (cB, 6000, .inl (fX9_addNumber th dc tl xl fo fa mn ft wl wr x).2.2))]) (va_A [(h0, .inr (9, [.int th, .ref a0, .ref a1, .ref a2, .int dc, .ref a3, .int tl, .ref a4, .int xl, .int fo, .int fa, .ref a5, .int mn, .ref a6, .int ft, .ref a7, .int wl])), (a7, .inl (cB, 6000, .inl wr))] sz)) 0 0 (va_A [(h0, .inr (9, [.int th, .ref a0, .ref a1, .ref a2, .int dc, .ref a3, .int tl, .ref a4, .int xl, .int fo, .int fa, .ref a5, .int mn, .ref a6, .int ft, .ref a7, .int wl])), (a7, .inl (cB, 6000, .inl wr))] sz) := by
  refine Met.ofW (cc := cX9_addNumber) (maxL := 6) (ret := none) (by decide) rfl ?_
  intro p e s m args below meth c s₁ B hml hv
  obtain ⟨rfl, hsz, hP, hG, hD0⟩ := hv
  have hx := B.exec
  have hb := B.bytes
  have hr := B.returns
  have hts := atoms_spec (ws := wsX9_addNumber) B.pre
  have hown : s.vm.findClass RX9 = some m.cls := findClass_of_methodNamed B.named
  have hlocks := B.notSynchronized
  subst hsz
  have hD := hD0.self (sz := s.heap.size)
  generalize hAe : va_A [(h0, .inr (9, [.int th, .ref a0, .ref a1, .ref a2, .int dc, .ref a3, .int tl, .ref a4, .int xl, .int fo, .int fa, .ref a5, .int mn, .ref a6, .int ft, .ref a7, .int wl])), (a7, .inl (cB, 6000, .inl wr))] s.heap.size = A at hD ⊢
  have hA : ∀ q : Nat, s.heap.size ≤ q → A q := fun q h => by rw [← hAe]; exact Or.inr h
  obtain ⟨H, hH⟩ : ∃ H : Heap, H = s.heap := ⟨_, rfl⟩
  have hS : va_S A s.heap H [] := by rw [hH]; exact va_S.rf
  rw [← hH] at hP ⊢
  generalize hR : fX9_addNumber th dc tl xl fo fa mn ft wl wr x = R
  unfold fX9_addNumber at hR
  have hl := lv_entry ([.ref h0, .int x]) (n := 6) (Nat.le_of_ble_eq_true rfl)
  rw [lg_entry_eq]
  generalize (lg_sl ([.ref h0, .int x]) ++ List.replicate (6 - (lg_sl ([.ref h0, .int x])).length) Slot.unset).toArray = ls at hl ⊢
  have hl : lv_has ls 6 [(0, .ref h0), (1, .int x)] := hl
  have loop_26 : ∀ (n : Nat), ∀ (xx : Int64) (mo : Int32) (wz : Nat → Int32) (wlz : Int32) (ftz : Int32) (H : Heap) (locs : List Loc) (ls : Array Slot), fX9_addNumber_26 th dc tl xl fo fa mn ft wl wr x n xx mo wz wlz ftz = R → (0 ≤ xx.toInt) → (0 ≤ mo.toInt) → (mo.toInt ≤ 1) → (0 ≤ wlz.toInt) → (wlz.toInt ≤ 6000) → (0 < ((n : Nat) : Int) ∧ (mo.toInt = 0 ∨ (((n : Nat) : Int) > 1 ∧ (xx.toInt < 32 ∨ (((n : Nat) : Int) > 2 ∧ (xx.toInt < 1024 ∨ (((n : Nat) : Int) > 3 ∧ (xx.toInt < 32768 ∨ (((n : Nat) : Int) > 4 ∧ (xx.toInt < 1048576 ∨ (((n : Nat) : Int) > 5 ∧ (xx.toInt < 33554432 ∨ (((n : Nat) : Int) > 6 ∧ (xx.toInt < 1073741824 ∨ (((n : Nat) : Int) > 7 ∧ xx.toInt < 34359738368))))))))))))))) → va_P (dC, dI) vwCl [(h0, .inr (9, [.int th, .ref a0, .ref a1, .ref a2, .int dc, .ref a3, .int tl, .ref a4, .int xl, .int fo, .int fa, .ref a5, .int mn, .ref a6, .int ftz, .ref a7, .int wlz])), (a7, .inl (cB, 6000, .inl wz))] H → va_D A [(h0, .inr (9, [.int th, .ref a0, .ref a1, .ref a2, .int dc, .ref a3, .int tl, .ref a4, .int xl, .int fo, .int fa, .ref a5, .int mn, .ref a6, .int ftz, .ref a7, .int wlz])), (a7, .inl (cB, 6000, .inl wz))] → va_S A s.heap H locs → lv_has ls 6 [(0, .ref h0), (1, .int x), (2, .long xx), (4, .int mo)] → W p l e (headSpec wsX9_addNumber ({ frames := 1, cells := 0, slots := 0, locals := 21 } : Room)).room s m ([.ref h0, .int x] : List Value).toArray below meth c H locs 0 0 (MQ below (va_Qv (fun _ => (0 ≤ R.2.1.toInt ∧ R.2.1.toInt ≤ 6000)) (cE dC dI (A) [(h0, .inr (9, [.int th, .ref a0, .ref a1, .ref a2, .int dc, .ref a3, .int tl, .ref a4, .int xl, .int fo, .int fa, .ref a5, .int mn, .ref a6, .int R.1, .ref a7, .int R.2.1])), (a7, .inl (cB, 6000, .inl R.2.2))]) (A)) ([.ref h0, .int x] : List Value).toArray s 0 0 A) (F0 m 26 ls []) := by
    intro n
    induction n with
    | zero => intro xx mo wz wlz ftz H locs ls hR hxx hm0 hm1 hz0 hz1 hmu; exfalso; omega
    | succ n ih =>
      intro xx mo wz wlz ftz H locs ls hR hxx hm0 hm1 hz0 hz1 hmu hP hD hS hl
      rw [fX9_addNumber_26] at hR
      refine lv_iload hx hb dX9_addNumber_26 (lv_at hl 3 rfl) ?_
      refine lv_if_eq (tgt := 81) hx hb dX9_addNumber_28 (by decide) (fun c_1 => ?_) (fun c_1 => ?_)
      · rw [if_pos c_1] at hR
        have e_2 : 0 ≤ (wlz : Int32).toInt ∧ (wlz : Int32).toInt ≤ 6000 := by
          clear hmu
          have k_3 : (0 : Int32).toInt = 0 := by decide
          have q_4 := i_eq c_1
          try generalize Int32.toInt wlz = z0 at *
          try generalize Int32.toInt mo = z1 at *
          try generalize Int32.toInt wl = z2 at *
          try generalize Int64.toInt xx = z3 at *
          try generalize Int32.toInt (0 : Int32) = z4 at *
          omega
        subst hR
        exact W.vret hx hb hr (fun t ht hW => ⟨⟨(), rfl, e_2, by rw [ht]; exact hP, hD⟩, hS.F ht⟩) hS.2.2 dX9_addNumber_81
      · rw [if_neg c_1] at hR
        refine lv_lload_n hx hb dX9_addNumber_31 rfl (lv_at hl 2 rfl) ?_
        refine lv_ldc2 (v := 31) hx hb hown (hts (.constantLong RX9 102 31) (by decide +kernel)) dX9_addNumber_32 ?_
        refine lv_land hx hb dX9_addNumber_35 ?_
        refine lv_l2i hx hb dX9_addNumber_36 rfl ?_
        refine lv_istore (lv' := [(5, .int (((xx &&& 31) : Int64).toInt32)), (0, .ref h0), (1, .int x), (2, .long xx), (4, .int mo)]) hx hb dX9_addNumber_37 hl (by decide) rfl (fun ls hl => ?_)
        refine lv_lload_n hx hb dX9_addNumber_39 rfl (lv_at hl 3 rfl) ?_
        refine lv_iconst (v := 5) hx hb dX9_addNumber_40 (by decide) ?_
        refine lv_lshr hx hb dX9_addNumber_41 rfl ?_
        refine lv_lstore_n (lv' := [(2, .long ((xx : Int64) >>> ((5 : Int32).toInt64 &&& 63))), (5, .int (((xx &&& 31) : Int64).toInt32)), (0, .ref h0), (1, .int x), (4, .int mo)]) hx hb dX9_addNumber_42 rfl hl (by decide) rfl (fun ls hl => ?_)
        refine lv_lload_n hx hb dX9_addNumber_43 rfl (lv_at hl 0 rfl) ?_
        refine lv_lconst (v := 0) hx hb dX9_addNumber_44 (by decide) ?_
        refine W.lcmp hx hb dX9_addNumber_45 ?_
        refine lv_if_le (tgt := 53) hx hb dX9_addNumber_46 (by decide) (fun c_5 => ?_) (fun c_5 => ?_)
        · rw [if_pos c_5] at hR
          refine lv_iconst (v := 0) hx hb dX9_addNumber_53 (by decide) ?_
          refine lv_istore (lv' := [(4, .int 0), (2, .long ((xx : Int64) >>> ((5 : Int32).toInt64 &&& 63))), (5, .int (((xx &&& 31) : Int64).toInt32)), (0, .ref h0), (1, .int x)]) hx hb dX9_addNumber_54 hl (by decide) rfl (fun ls hl => ?_)
          refine lv_aload_n hx hb dX9_addNumber_56 rfl (lv_at hl 3 rfl) ?_
          refine lv_iload hx hb dX9_addNumber_57 (lv_at hl 0 rfl) ?_
          refine lv_if_eq (tgt := 70) hx hb dX9_addNumber_59 (by decide) (fun c_6 => ?_) (fun c_6 => ?_)
          · refine lv_iload hx hb dX9_addNumber_70 (lv_at hl 2 rfl) ?_
            have hPc := hP.sub (ws' := []) [] rfl
            have hDc := hD.sub (ws' := []) [] (by decide) rfl
            refine vp_callSi (va_Run.run (va_runS (As := [.int (((xx &&& 31) : Int64).toInt32)]) (rest := [.ref h0]) ⟨hx, hb, hml, hown, hts⟩ (c_X9_letter l dC dI cB cC cI cJ H.size (((xx &&& 31) : Int64).toInt32) ) (va_cwS 1 hts gX9_addNumber_X9_letter rfl rfl rfl (by decide +kernel) ⟨(Nat.le_of_ble_eq_true rfl), (Nat.le_of_ble_eq_true rfl)⟩) ⟨cP_blind, cP_pre hPc hG hDc⟩ rfl rfl hl.1 rfl (lv_room (Nat.le_of_ble_eq_true rfl)) dX9_addNumber_72 ⟨Nat.le_of_ble_eq_true rfl, Nat.le_of_ble_eq_true rfl⟩)) (fun r_7 hr_7 => ?_)
            rw [bnd_eq hr_7.symm] at hR
            have p_8 : 0 ≤ wlz.toInt := by
              first | exact hz0 | assumption
            have p_9 : wlz.toInt ≤ 6000 := by
              first | exact hz1 | assumption
            have hPc := hP.sub (ws' := [(h0, .inr (9, [.int th, .ref a0, .ref a1, .ref a2, .int dc, .ref a3, .int tl, .ref a4, .int xl, .int fo, .int fa, .ref a5, .int mn, .ref a6, .int ftz, .ref a7, .int wlz])), (a7, .inl (cB, 6000, .inl wz))]) [0, 1] rfl
            have hDc := hD.sub (ws' := [(h0, .inr (9, [.int th, .ref a0, .ref a1, .ref a2, .int dc, .ref a3, .int tl, .ref a4, .int xl, .int fo, .int fa, .ref a5, .int mn, .ref a6, .int ftz, .ref a7, .int wlz])), (a7, .inl (cB, 6000, .inl wz))]) [0, 1] (by decide) rfl
            have hFc := va_free (wc := [(h0, .inr (9, [.int th, .ref a0, .ref a1, .ref a2, .int dc, .ref a3, .int tl, .ref a4, .int xl, .int fo, .int fa, .ref a5, .int mn, .ref a6, .int ftz, .ref a7, .int wlz])), (a7, .inl (cB, 6000, .inl wz))]) hD hS hA [0, 1] rfl
            refine va_callv (va_runV (As := [.int r_7]) (rest := []) ⟨hx, hb, hml, hown, hts⟩ (c_X9_add l dC dI cB cC cI cJ H.size h0 a0 a1 a2 a3 a4 a5 a6 a7 th dc tl xl fo fa mn ftz wlz wz r_7 p_8 p_9) (cwV 1 hts gX9_addNumber_X9_add rfl rfl rfl (by decide +kernel) ⟨(Nat.le_of_ble_eq_true rfl), (Nat.le_of_ble_eq_true rfl)⟩) ⟨cP_blind, va_recv hG.1 hPc (ci := 9) (q0 := 0) rfl rfl, cP_pre hPc hG hDc⟩ rfl rfl hl.1 rfl (lv_room (Nat.le_of_ble_eq_true rfl)) dX9_addNumber_75 ⟨Nat.le_of_ble_eq_true rfl, Nat.le_of_ble_eq_true rfl⟩) hS (fun q _ h => hFc q h) hFc (fun u t H1 locs ht hvm hw hB hz1 hk1 hS => ?_)
            obtain ⟨hP1, hD1⟩ := hB
            rw [ht] at hP1
            generalize hr_10 : fX9_add th dc tl xl fo fa mn ftz wlz wz r_7 = r_10 at hP1 hD1 hw
            have er_10_0 := hw
            rw [bnd_eq hr_10] at hR
            obtain ⟨hP, hD⟩ := va_join (wr := []) (w1 := [(h0, .inr (9, [.int th, .ref a0, .ref a1, .ref a2, .int dc, .ref a3, .int tl, .ref a4, .int xl, .int fo, .int fa, .ref a5, .int mn, .ref a6, .int r_10.1, .ref a7, .int r_10.2.1])), (a7, .inl (cB, 6000, .inl r_10.2.2))]) hP hD [0, 1] [] rfl rfl (by decide) (by decide) hk1 hFc hP1 hD1
            generalize H1 = H at hP hS ⊢
            have hP := hP.sub (ws' := [(h0, .inr (9, [.int th, .ref a0, .ref a1, .ref a2, .int dc, .ref a3, .int tl, .ref a4, .int xl, .int fo, .int fa, .ref a5, .int mn, .ref a6, .int r_10.1, .ref a7, .int r_10.2.1])), (a7, .inl (cB, 6000, .inl r_10.2.2))]) [0, 1] rfl
            have hD := hD.sub (ws' := [(h0, .inr (9, [.int th, .ref a0, .ref a1, .ref a2, .int dc, .ref a3, .int tl, .ref a4, .int xl, .int fo, .int fa, .ref a5, .int mn, .ref a6, .int r_10.1, .ref a7, .int r_10.2.1])), (a7, .inl (cB, 6000, .inl r_10.2.2))]) [0, 1] (by decide) rfl
            refine lv_goto (tgt := 26) hx hb dX9_addNumber_78 (by decide) ?_
            have v_14 : 0 ≤ (((xx : Int64) >>> ((5 : Int32).toInt64 &&& 63))).toInt := by
              rw [sh5]; omega
            have v_15 : 0 ≤ (0 : Int32).toInt := by
              clear hmu
              have k_16 : (0 : Int32).toInt = 0 := by decide
              have q_17 := i_ne c_1
              have q_18 := i_eq c_6
              try generalize Int32.toInt r_10.2.1 = z0 at *
              try generalize Int32.toInt wlz = z1 at *
              try generalize Int32.toInt mo = z2 at *
              try generalize Int32.toInt wl = z3 at *
              try generalize Int64.toInt xx = z4 at *
              try generalize Int32.toInt (0 : Int32) = z5 at *
              omega
            have v_19 : (0 : Int32).toInt ≤ 1 := by
              clear hmu
              have k_20 : (0 : Int32).toInt = 0 := by decide
              have q_21 := i_ne c_1
              have q_22 := i_eq c_6
              try generalize Int32.toInt r_10.2.1 = z0 at *
              try generalize Int32.toInt wlz = z1 at *
              try generalize Int32.toInt mo = z2 at *
              try generalize Int32.toInt wl = z3 at *
              try generalize Int64.toInt xx = z4 at *
              try generalize Int32.toInt (0 : Int32) = z5 at *
              omega
            have v_23 : 0 ≤ r_10.2.1.toInt := by
              clear hmu
              have k_24 : (0 : Int32).toInt = 0 := by decide
              have q_25 := i_ne c_1
              have q_26 := i_eq c_6
              try generalize Int32.toInt r_10.2.1 = z0 at *
              try generalize Int32.toInt wlz = z1 at *
              try generalize Int32.toInt mo = z2 at *
              try generalize Int32.toInt wl = z3 at *
              try generalize Int64.toInt xx = z4 at *
              try generalize Int32.toInt (0 : Int32) = z5 at *
              omega
            have v_27 : r_10.2.1.toInt ≤ 6000 := by
              clear hmu
              have k_28 : (0 : Int32).toInt = 0 := by decide
              have q_29 := i_ne c_1
              have q_30 := i_eq c_6
              try generalize Int32.toInt r_10.2.1 = z0 at *
              try generalize Int32.toInt wlz = z1 at *
              try generalize Int32.toInt mo = z2 at *
              try generalize Int32.toInt wl = z3 at *
              try generalize Int64.toInt xx = z4 at *
              try generalize Int32.toInt (0 : Int32) = z5 at *
              omega
            have v_31 : 0 < ((n : Nat) : Int) ∧ ((0 : Int32).toInt = 0 ∨ (((n : Nat) : Int) > 1 ∧ ((((xx : Int64) >>> ((5 : Int32).toInt64 &&& 63))).toInt < 32 ∨ (((n : Nat) : Int) > 2 ∧ ((((xx : Int64) >>> ((5 : Int32).toInt64 &&& 63))).toInt < 1024 ∨ (((n : Nat) : Int) > 3 ∧ ((((xx : Int64) >>> ((5 : Int32).toInt64 &&& 63))).toInt < 32768 ∨ (((n : Nat) : Int) > 4 ∧ ((((xx : Int64) >>> ((5 : Int32).toInt64 &&& 63))).toInt < 1048576 ∨ (((n : Nat) : Int) > 5 ∧ ((((xx : Int64) >>> ((5 : Int32).toInt64 &&& 63))).toInt < 33554432 ∨ (((n : Nat) : Int) > 6 ∧ ((((xx : Int64) >>> ((5 : Int32).toInt64 &&& 63))).toInt < 1073741824 ∨ (((n : Nat) : Int) > 7 ∧ (((xx : Int64) >>> ((5 : Int32).toInt64 &&& 63))).toInt < 34359738368)))))))))))))) := by
              first | (have hc : ¬ lg_cmp (xx >>> ((5 : Int32).toInt64 &&& 63)) 0 ≤ 0 := (by assumption); exact an_s1 hxx hm0 hm1 (by assumption) hmu hc) | (have hc : lg_cmp (xx >>> ((5 : Int32).toInt64 &&& 63)) 0 ≤ 0 := (by assumption); exact an_s0 hxx hm0 hm1 (by assumption) hmu)
            exact ih (((xx : Int64) >>> ((5 : Int32).toInt64 &&& 63))) (0) (r_10.2.2) (r_10.2.1) (r_10.1) _ _ ls hR v_14 v_15 v_19 v_23 v_27 v_31 hP hD hS (lv_sub hl [3, 4, 1, 0] rfl)
          · exact absurd (by decide) c_6
        · rw [if_neg c_5] at hR
          refine lv_iconst (v := 1) hx hb dX9_addNumber_49 (by decide) ?_
          refine lv_goto (tgt := 54) hx hb dX9_addNumber_50 (by decide) ?_
          refine lv_istore (lv' := [(4, .int 1), (2, .long ((xx : Int64) >>> ((5 : Int32).toInt64 &&& 63))), (5, .int (((xx &&& 31) : Int64).toInt32)), (0, .ref h0), (1, .int x)]) hx hb dX9_addNumber_54 hl (by decide) rfl (fun ls hl => ?_)
          refine lv_aload_n hx hb dX9_addNumber_56 rfl (lv_at hl 3 rfl) ?_
          refine lv_iload hx hb dX9_addNumber_57 (lv_at hl 0 rfl) ?_
          refine lv_if_eq (tgt := 70) hx hb dX9_addNumber_59 (by decide) (fun c_35 => ?_) (fun c_35 => ?_)
          · exact absurd c_35 (by decide)
          · refine lv_iload hx hb dX9_addNumber_62 (lv_at hl 2 rfl) ?_
            refine lv_bipush (v := 32) hx hb dX9_addNumber_64 (by decide) ?_
            refine lv_iadd hx hb dX9_addNumber_66 ?_
            refine lv_goto (tgt := 72) hx hb dX9_addNumber_67 (by decide) ?_
            have hPc := hP.sub (ws' := []) [] rfl
            have hDc := hD.sub (ws' := []) [] (by decide) rfl
            refine vp_callSi (va_Run.run (va_runS (As := [.int ((((xx &&& 31) : Int64).toInt32) + 32)]) (rest := [.ref h0]) ⟨hx, hb, hml, hown, hts⟩ (c_X9_letter l dC dI cB cC cI cJ H.size ((((xx &&& 31) : Int64).toInt32) + 32) ) (va_cwS 1 hts gX9_addNumber_X9_letter rfl rfl rfl (by decide +kernel) ⟨(Nat.le_of_ble_eq_true rfl), (Nat.le_of_ble_eq_true rfl)⟩) ⟨cP_blind, cP_pre hPc hG hDc⟩ rfl rfl hl.1 rfl (lv_room (Nat.le_of_ble_eq_true rfl)) dX9_addNumber_72 ⟨Nat.le_of_ble_eq_true rfl, Nat.le_of_ble_eq_true rfl⟩)) (fun r_36 hr_36 => ?_)
            rw [bnd_eq hr_36.symm] at hR
            have p_37 : 0 ≤ wlz.toInt := by
              first | exact hz0 | assumption
            have p_38 : wlz.toInt ≤ 6000 := by
              first | exact hz1 | assumption
            have hPc := hP.sub (ws' := [(h0, .inr (9, [.int th, .ref a0, .ref a1, .ref a2, .int dc, .ref a3, .int tl, .ref a4, .int xl, .int fo, .int fa, .ref a5, .int mn, .ref a6, .int ftz, .ref a7, .int wlz])), (a7, .inl (cB, 6000, .inl wz))]) [0, 1] rfl
            have hDc := hD.sub (ws' := [(h0, .inr (9, [.int th, .ref a0, .ref a1, .ref a2, .int dc, .ref a3, .int tl, .ref a4, .int xl, .int fo, .int fa, .ref a5, .int mn, .ref a6, .int ftz, .ref a7, .int wlz])), (a7, .inl (cB, 6000, .inl wz))]) [0, 1] (by decide) rfl
            have hFc := va_free (wc := [(h0, .inr (9, [.int th, .ref a0, .ref a1, .ref a2, .int dc, .ref a3, .int tl, .ref a4, .int xl, .int fo, .int fa, .ref a5, .int mn, .ref a6, .int ftz, .ref a7, .int wlz])), (a7, .inl (cB, 6000, .inl wz))]) hD hS hA [0, 1] rfl
            refine va_callv (va_runV (As := [.int r_36]) (rest := []) ⟨hx, hb, hml, hown, hts⟩ (c_X9_add l dC dI cB cC cI cJ H.size h0 a0 a1 a2 a3 a4 a5 a6 a7 th dc tl xl fo fa mn ftz wlz wz r_36 p_37 p_38) (cwV 1 hts gX9_addNumber_X9_add rfl rfl rfl (by decide +kernel) ⟨(Nat.le_of_ble_eq_true rfl), (Nat.le_of_ble_eq_true rfl)⟩) ⟨cP_blind, va_recv hG.1 hPc (ci := 9) (q0 := 0) rfl rfl, cP_pre hPc hG hDc⟩ rfl rfl hl.1 rfl (lv_room (Nat.le_of_ble_eq_true rfl)) dX9_addNumber_75 ⟨Nat.le_of_ble_eq_true rfl, Nat.le_of_ble_eq_true rfl⟩) hS (fun q _ h => hFc q h) hFc (fun u t H1 locs ht hvm hw hB hz1 hk1 hS => ?_)
            obtain ⟨hP1, hD1⟩ := hB
            rw [ht] at hP1
            generalize hr_39 : fX9_add th dc tl xl fo fa mn ftz wlz wz r_36 = r_39 at hP1 hD1 hw
            have er_39_0 := hw
            rw [bnd_eq hr_39] at hR
            obtain ⟨hP, hD⟩ := va_join (wr := []) (w1 := [(h0, .inr (9, [.int th, .ref a0, .ref a1, .ref a2, .int dc, .ref a3, .int tl, .ref a4, .int xl, .int fo, .int fa, .ref a5, .int mn, .ref a6, .int r_39.1, .ref a7, .int r_39.2.1])), (a7, .inl (cB, 6000, .inl r_39.2.2))]) hP hD [0, 1] [] rfl rfl (by decide) (by decide) hk1 hFc hP1 hD1
            generalize H1 = H at hP hS ⊢
            have hP := hP.sub (ws' := [(h0, .inr (9, [.int th, .ref a0, .ref a1, .ref a2, .int dc, .ref a3, .int tl, .ref a4, .int xl, .int fo, .int fa, .ref a5, .int mn, .ref a6, .int r_39.1, .ref a7, .int r_39.2.1])), (a7, .inl (cB, 6000, .inl r_39.2.2))]) [0, 1] rfl
            have hD := hD.sub (ws' := [(h0, .inr (9, [.int th, .ref a0, .ref a1, .ref a2, .int dc, .ref a3, .int tl, .ref a4, .int xl, .int fo, .int fa, .ref a5, .int mn, .ref a6, .int r_39.1, .ref a7, .int r_39.2.1])), (a7, .inl (cB, 6000, .inl r_39.2.2))]) [0, 1] (by decide) rfl
            refine lv_goto (tgt := 26) hx hb dX9_addNumber_78 (by decide) ?_
            have v_44 : 0 ≤ (((xx : Int64) >>> ((5 : Int32).toInt64 &&& 63))).toInt := by
              rw [sh5]; omega
            have v_45 : 0 ≤ (1 : Int32).toInt := by
              clear hmu
              have k_46 : (0 : Int32).toInt = 0 := by decide
              have q_47 := i_ne c_1
              have k_48 : (1 : Int32).toInt = 1 := by decide
              have q_49 := i_ne c_35
              try generalize Int32.toInt r_39.2.1 = z0 at *
              try generalize Int32.toInt wlz = z1 at *
              try generalize Int32.toInt mo = z2 at *
              try generalize Int32.toInt wl = z3 at *
              try generalize Int64.toInt xx = z4 at *
              try generalize Int32.toInt (0 : Int32) = z5 at *
              try generalize Int32.toInt (1 : Int32) = z6 at *
              omega
            have v_50 : (1 : Int32).toInt ≤ 1 := by
              clear hmu
              have k_51 : (0 : Int32).toInt = 0 := by decide
              have q_52 := i_ne c_1
              have k_53 : (1 : Int32).toInt = 1 := by decide
              have q_54 := i_ne c_35
              try generalize Int32.toInt r_39.2.1 = z0 at *
              try generalize Int32.toInt wlz = z1 at *
              try generalize Int32.toInt mo = z2 at *
              try generalize Int32.toInt wl = z3 at *
              try generalize Int64.toInt xx = z4 at *
              try generalize Int32.toInt (0 : Int32) = z5 at *
              try generalize Int32.toInt (1 : Int32) = z6 at *
              omega
            have v_55 : 0 ≤ r_39.2.1.toInt := by
              clear hmu
              have k_56 : (0 : Int32).toInt = 0 := by decide
              have q_57 := i_ne c_1
              have k_58 : (1 : Int32).toInt = 1 := by decide
              have q_59 := i_ne c_35
              try generalize Int32.toInt r_39.2.1 = z0 at *
              try generalize Int32.toInt wlz = z1 at *
              try generalize Int32.toInt mo = z2 at *
              try generalize Int32.toInt wl = z3 at *
              try generalize Int64.toInt xx = z4 at *
              try generalize Int32.toInt (0 : Int32) = z5 at *
              try generalize Int32.toInt (1 : Int32) = z6 at *
              omega
            have v_60 : r_39.2.1.toInt ≤ 6000 := by
              clear hmu
              have k_61 : (0 : Int32).toInt = 0 := by decide
              have q_62 := i_ne c_1
              have k_63 : (1 : Int32).toInt = 1 := by decide
              have q_64 := i_ne c_35
              try generalize Int32.toInt r_39.2.1 = z0 at *
              try generalize Int32.toInt wlz = z1 at *
              try generalize Int32.toInt mo = z2 at *
              try generalize Int32.toInt wl = z3 at *
              try generalize Int64.toInt xx = z4 at *
              try generalize Int32.toInt (0 : Int32) = z5 at *
              try generalize Int32.toInt (1 : Int32) = z6 at *
              omega
            have v_65 : 0 < ((n : Nat) : Int) ∧ ((1 : Int32).toInt = 0 ∨ (((n : Nat) : Int) > 1 ∧ ((((xx : Int64) >>> ((5 : Int32).toInt64 &&& 63))).toInt < 32 ∨ (((n : Nat) : Int) > 2 ∧ ((((xx : Int64) >>> ((5 : Int32).toInt64 &&& 63))).toInt < 1024 ∨ (((n : Nat) : Int) > 3 ∧ ((((xx : Int64) >>> ((5 : Int32).toInt64 &&& 63))).toInt < 32768 ∨ (((n : Nat) : Int) > 4 ∧ ((((xx : Int64) >>> ((5 : Int32).toInt64 &&& 63))).toInt < 1048576 ∨ (((n : Nat) : Int) > 5 ∧ ((((xx : Int64) >>> ((5 : Int32).toInt64 &&& 63))).toInt < 33554432 ∨ (((n : Nat) : Int) > 6 ∧ ((((xx : Int64) >>> ((5 : Int32).toInt64 &&& 63))).toInt < 1073741824 ∨ (((n : Nat) : Int) > 7 ∧ (((xx : Int64) >>> ((5 : Int32).toInt64 &&& 63))).toInt < 34359738368)))))))))))))) := by
              first | (have hc : ¬ lg_cmp (xx >>> ((5 : Int32).toInt64 &&& 63)) 0 ≤ 0 := (by assumption); exact an_s1 hxx hm0 hm1 (by assumption) hmu hc) | (have hc : lg_cmp (xx >>> ((5 : Int32).toInt64 &&& 63)) 0 ≤ 0 := (by assumption); exact an_s0 hxx hm0 hm1 (by assumption) hmu)
            exact ih (((xx : Int64) >>> ((5 : Int32).toInt64 &&& 63))) (1) (r_39.2.2) (r_39.2.1) (r_39.1) _ _ ls hR v_44 v_45 v_50 v_55 v_60 v_65 hP hD hS (lv_sub hl [3, 4, 1, 0] rfl)
  refine lv_iload_n hx hb dX9_addNumber_0 rfl (lv_at hl 1 rfl) ?_
  refine lv_if_ge (tgt := 16) hx hb dX9_addNumber_1 (by decide) (fun c_70 => ?_) (fun c_70 => ?_)
  · rw [if_pos c_70] at hR
    refine lv_iload_n hx hb dX9_addNumber_16 rfl (lv_at hl 1 rfl) ?_
    refine lv_i2l hx hb dX9_addNumber_17 rfl ?_
    refine lv_ldc2 (v := 2) hx hb hown (hts (.constantLong RX9 100 2) (by decide +kernel)) dX9_addNumber_18 ?_
    refine lv_lmul hx hb dX9_addNumber_21 ?_
    refine lv_lstore_n (lv' := [(2, .long (((x : Int32).toInt64) * 2)), (0, .ref h0), (1, .int x)]) hx hb dX9_addNumber_22 rfl hl (by decide) rfl (fun ls hl => ?_)
    refine lv_iconst (v := 1) hx hb dX9_addNumber_23 (by decide) ?_
    refine lv_istore (lv' := [(4, .int 1), (2, .long (((x : Int32).toInt64) * 2)), (0, .ref h0), (1, .int x)]) hx hb dX9_addNumber_24 hl (by decide) rfl (fun ls hl => ?_)
    have v_73 : 0 ≤ ((((x : Int32).toInt64) * 2)).toInt := by
      first | (have hc : 0 ≤ x := (by assumption); exact an_pos hc) | (have hc : ¬ 0 ≤ x := (by assumption); exact an_neg hc)
    have v_74 : 0 ≤ (1 : Int32).toInt := by
      have k_75 : (0 : Int32).toInt = 0 := by decide
      have q_76 := i_le c_70
      have k_77 : (1 : Int32).toInt = 1 := by decide
      try generalize Int32.toInt wl = z0 at *
      try generalize Int32.toInt (0 : Int32) = z1 at *
      try generalize Int32.toInt (1 : Int32) = z2 at *
      try generalize Int32.toInt x = z3 at *
      omega
    have v_78 : (1 : Int32).toInt ≤ 1 := by
      have k_79 : (0 : Int32).toInt = 0 := by decide
      have q_80 := i_le c_70
      have k_81 : (1 : Int32).toInt = 1 := by decide
      try generalize Int32.toInt wl = z0 at *
      try generalize Int32.toInt (0 : Int32) = z1 at *
      try generalize Int32.toInt (1 : Int32) = z2 at *
      try generalize Int32.toInt x = z3 at *
      omega
    have v_82 : 0 ≤ wl.toInt := by
      have k_83 : (0 : Int32).toInt = 0 := by decide
      have q_84 := i_le c_70
      try generalize Int32.toInt wl = z0 at *
      try generalize Int32.toInt (0 : Int32) = z1 at *
      try generalize Int32.toInt x = z2 at *
      omega
    have v_85 : wl.toInt ≤ 6000 := by
      have k_86 : (0 : Int32).toInt = 0 := by decide
      have q_87 := i_le c_70
      try generalize Int32.toInt wl = z0 at *
      try generalize Int32.toInt (0 : Int32) = z1 at *
      try generalize Int32.toInt x = z2 at *
      omega
    have v_88 : 0 < ((10 : Nat) : Int) ∧ ((1 : Int32).toInt = 0 ∨ (((10 : Nat) : Int) > 1 ∧ (((((x : Int32).toInt64) * 2)).toInt < 32 ∨ (((10 : Nat) : Int) > 2 ∧ (((((x : Int32).toInt64) * 2)).toInt < 1024 ∨ (((10 : Nat) : Int) > 3 ∧ (((((x : Int32).toInt64) * 2)).toInt < 32768 ∨ (((10 : Nat) : Int) > 4 ∧ (((((x : Int32).toInt64) * 2)).toInt < 1048576 ∨ (((10 : Nat) : Int) > 5 ∧ (((((x : Int32).toInt64) * 2)).toInt < 33554432 ∨ (((10 : Nat) : Int) > 6 ∧ (((((x : Int32).toInt64) * 2)).toInt < 1073741824 ∨ (((10 : Nat) : Int) > 7 ∧ ((((x : Int32).toInt64) * 2)).toInt < 34359738368)))))))))))))) := by
      first | (have hc : 0 ≤ x := (by assumption); exact an_pm hc) | (have hc : ¬ 0 ≤ x := (by assumption); exact an_nm hc)
    exact loop_26 10 ((((x : Int32).toInt64) * 2)) (1) (wr) (wl) (ft) _ _ ls hR v_73 v_74 v_78 v_82 v_85 v_88 hP hD hS (lv_sub hl [2, 3, 1, 0] rfl)
  · rw [if_neg c_70] at hR
    refine lv_iload_n hx hb dX9_addNumber_4 rfl (lv_at hl 1 rfl) ?_
    refine lv_i2l hx hb dX9_addNumber_5 rfl ?_
    refine lv_lneg hx hb dX9_addNumber_6 ?_
    refine lv_ldc2 (v := 2) hx hb hown (hts (.constantLong RX9 100 2) (by decide +kernel)) dX9_addNumber_7 ?_
    refine lv_lmul hx hb dX9_addNumber_10 ?_
    refine lv_lconst (v := 1) hx hb dX9_addNumber_11 (by decide) ?_
    refine lv_ladd hx hb dX9_addNumber_12 ?_
    refine lv_goto (tgt := 22) hx hb dX9_addNumber_13 (by decide) ?_
    refine lv_lstore_n (lv' := [(2, .long (((-((x : Int32).toInt64)) * 2) + 1)), (0, .ref h0), (1, .int x)]) hx hb dX9_addNumber_22 rfl hl (by decide) rfl (fun ls hl => ?_)
    refine lv_iconst (v := 1) hx hb dX9_addNumber_23 (by decide) ?_
    refine lv_istore (lv' := [(4, .int 1), (2, .long (((-((x : Int32).toInt64)) * 2) + 1)), (0, .ref h0), (1, .int x)]) hx hb dX9_addNumber_24 hl (by decide) rfl (fun ls hl => ?_)
    have v_94 : 0 ≤ ((((-((x : Int32).toInt64)) * 2) + 1)).toInt := by
      first | (have hc : 0 ≤ x := (by assumption); exact an_pos hc) | (have hc : ¬ 0 ≤ x := (by assumption); exact an_neg hc)
    have v_95 : 0 ≤ (1 : Int32).toInt := by
      have k_96 : (0 : Int32).toInt = 0 := by decide
      have q_97 := i_nle c_70
      have k_98 : (1 : Int32).toInt = 1 := by decide
      try generalize Int32.toInt wl = z0 at *
      try generalize Int32.toInt (0 : Int32) = z1 at *
      try generalize Int32.toInt (1 : Int32) = z2 at *
      try generalize Int32.toInt x = z3 at *
      omega
    have v_99 : (1 : Int32).toInt ≤ 1 := by
      have k_100 : (0 : Int32).toInt = 0 := by decide
      have q_101 := i_nle c_70
      have k_102 : (1 : Int32).toInt = 1 := by decide
      try generalize Int32.toInt wl = z0 at *
      try generalize Int32.toInt (0 : Int32) = z1 at *
      try generalize Int32.toInt (1 : Int32) = z2 at *
      try generalize Int32.toInt x = z3 at *
      omega
    have v_103 : 0 ≤ wl.toInt := by
      have k_104 : (0 : Int32).toInt = 0 := by decide
      have q_105 := i_nle c_70
      try generalize Int32.toInt wl = z0 at *
      try generalize Int32.toInt (0 : Int32) = z1 at *
      try generalize Int32.toInt x = z2 at *
      omega
    have v_106 : wl.toInt ≤ 6000 := by
      have k_107 : (0 : Int32).toInt = 0 := by decide
      have q_108 := i_nle c_70
      try generalize Int32.toInt wl = z0 at *
      try generalize Int32.toInt (0 : Int32) = z1 at *
      try generalize Int32.toInt x = z2 at *
      omega
    have v_109 : 0 < ((10 : Nat) : Int) ∧ ((1 : Int32).toInt = 0 ∨ (((10 : Nat) : Int) > 1 ∧ (((((-((x : Int32).toInt64)) * 2) + 1)).toInt < 32 ∨ (((10 : Nat) : Int) > 2 ∧ (((((-((x : Int32).toInt64)) * 2) + 1)).toInt < 1024 ∨ (((10 : Nat) : Int) > 3 ∧ (((((-((x : Int32).toInt64)) * 2) + 1)).toInt < 32768 ∨ (((10 : Nat) : Int) > 4 ∧ (((((-((x : Int32).toInt64)) * 2) + 1)).toInt < 1048576 ∨ (((10 : Nat) : Int) > 5 ∧ (((((-((x : Int32).toInt64)) * 2) + 1)).toInt < 33554432 ∨ (((10 : Nat) : Int) > 6 ∧ (((((-((x : Int32).toInt64)) * 2) + 1)).toInt < 1073741824 ∨ (((10 : Nat) : Int) > 7 ∧ ((((-((x : Int32).toInt64)) * 2) + 1)).toInt < 34359738368)))))))))))))) := by
      first | (have hc : 0 ≤ x := (by assumption); exact an_pm hc) | (have hc : ¬ 0 ≤ x := (by assumption); exact an_nm hc)
    exact loop_26 10 ((((-((x : Int32).toInt64)) * 2) + 1)) (1) (wr) (wl) (ft) _ _ ls hR v_94 v_95 v_99 v_103 v_106 v_109 hP hD hS (lv_sub hl [2, 3, 1, 0] rfl)
