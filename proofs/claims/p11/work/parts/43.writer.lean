theorem and31 (x : Int32) : 0 ≤ (x &&& 31).toInt ∧ (x &&& 31).toInt ≤ 31 := by
  obtain ⟨j, hj, e⟩ := pk_andE x (m := 31) 5 (by decide)
  rw [e, nI_toInt (by omega)]
  omega

def fX6_appendNumber_18 (ch : Nat → Int32) (ln ov : Int32) (x : Int32) : Nat → Int32 → Int32 → Int32 → Int32 → (Nat → Int32) → Int32 × Int32 × (Nat → Int32)
  | 0, _, _, _, _, _ => (0, 0, (fun _ => 0))
  | n + 1, rs, k, lz, oz, cz =>
    if 7 ≤ k then
      (lz, oz, cz)
    else
      if ((rs : Int32).toUInt32 >>> ((5 : Int32).toUInt32 &&& Int32.toUInt32 31)).toInt32 = 0 then
        bnd (fJ0_charAt_5068e (rs &&& 31)) fun r_76 =>
        bnd (fX6_append cz lz oz r_76) fun r_79 =>
        (r_79.1, r_79.2.1, r_79.2.2)
      else
        bnd (fJ0_charAt_5068e ((rs &&& 31) + 32)) fun r_20 =>
        bnd (fX6_append cz lz oz r_20) fun r_23 =>
        fX6_appendNumber_18 ch ln ov x n (((rs : Int32).toUInt32 >>> ((5 : Int32).toUInt32 &&& Int32.toUInt32 31)).toInt32) (k + 1) r_23.1 r_23.2.1 r_23.2.2
def fX6_appendNumber (ch : Nat → Int32) (ln ov : Int32) (x : Int32) : Int32 × Int32 × (Nat → Int32) :=
  if 0 ≤ x then
    fX6_appendNumber_18 ch ln ov x 8 (2 * x) 0 ln ov ch
  else
    fX6_appendNumber_18 ch ln ov x 8 (1 - (2 * x)) 0 ln ov ch
set_option maxHeartbeats 4000000 in
set_option maxRecDepth 100000 in
theorem c_X6_appendNumber (l : Launch) (dC : Nat → ClassId) (dI : Nat → Nat → Nat) (cB cC cI cJ : ClassId) (ak av sz : Nat) (h0 b0 : Nat) (ch : Nat → Int32) (ln ov : Int32) (x : Int32) (hl0 : 0 ≤ ln.toInt) (hl1 : ln.toInt ≤ 6000) : Met l yX6_appendNumber wsX6_appendNumber ({ frames := 4, cells := 0, slots := 0, locals := 85 } : Room) (cPs dC dI cB cC cI cJ ak av [.ref h0, .int x] sz [(h0, .inr (6, [.ref b0, .int ln, .int ov])), (b0, .inl (cC, 6000, .inl ch))]) (va_Qv (fun _ => (0 ≤ (fX6_appendNumber ch ln ov x).1.toInt ∧ (fX6_appendNumber ch ln ov x).1.toInt ≤ 6000)) (cE dC dI (va_A [(h0, .inr (6, [.ref b0, .int ln, .int ov])), (b0, .inl (cC, 6000, .inl ch))] sz) [(h0, .inr (6, [.ref b0, .int (fX6_appendNumber ch ln ov x).1, .int (fX6_appendNumber ch ln ov x).2.1])), (b0, .inl (cC, 6000, .inl (fX6_appendNumber ch ln ov x).2.2))]) (va_A [(h0, .inr (6, [.ref b0, .int ln, .int ov])), (b0, .inl (cC, 6000, .inl ch))] sz)) 0 0 (va_A [(h0, .inr (6, [.ref b0, .int ln, .int ov])), (b0, .inl (cC, 6000, .inl ch))] sz) := by
  refine Met.ofW (cc := cX6_appendNumber) (maxL := 5) (ret := none) (by decide) rfl ?_
  intro p e s m args below meth c s₁ B hml hv
  obtain ⟨rfl, hsz, hP, hG, hD0, hSK, hSR⟩ := hv
  have hx := B.exec
  have hb := B.bytes
  have hr := B.returns
  have hts := atoms_spec (ws := wsX6_appendNumber) B.pre
  have hown : s.vm.findClass RX6 = some m.cls := findClass_of_methodNamed B.named
  have hlocks := B.notSynchronized
  subst hsz
  have hD := hD0.self (sz := s.heap.size)
  generalize hAe : va_A [(h0, .inr (6, [.ref b0, .int ln, .int ov])), (b0, .inl (cC, 6000, .inl ch))] s.heap.size = A at hD hSK ⊢
  have hA : ∀ q : Nat, s.heap.size ≤ q → A q := fun q h => by rw [← hAe]; exact Or.inr h
  obtain ⟨H, hH⟩ : ∃ H : Heap, H = s.heap := ⟨_, rfl⟩
  have hS : va_S A s.heap H [] := by rw [hH]; exact va_S.rf
  rw [← hH] at hP ⊢
  generalize hR : fX6_appendNumber ch ln ov x = R
  unfold fX6_appendNumber at hR
  have hl := lv_entry ([.ref h0, .int x]) (n := 5) (Nat.le_of_ble_eq_true rfl)
  rw [lg_entry_eq]
  generalize (lg_sl ([.ref h0, .int x]) ++ List.replicate (5 - (lg_sl ([.ref h0, .int x])).length) Slot.unset).toArray = ls at hl ⊢
  have hl : lv_has ls 5 [(0, .ref h0), (1, .int x)] := hl
  have loop_18 : ∀ (n : Nat), ∀ (rs : Int32) (k : Int32) (lz : Int32) (oz : Int32) (cz : Nat → Int32) (H : Heap) (locs : List Loc) (ls : Array Slot), fX6_appendNumber_18 ch ln ov x n rs k lz oz cz = R → (0 ≤ k.toInt) → (k.toInt ≤ 7) → (0 ≤ lz.toInt) → (lz.toInt ≤ 6000) → (7 - k.toInt < ((n : Nat) : Int)) → va_P (dC, dI) vwCl [(h0, .inr (6, [.ref b0, .int lz, .int oz])), (b0, .inl (cC, 6000, .inl cz))] H → va_D A [(h0, .inr (6, [.ref b0, .int lz, .int oz])), (b0, .inl (cC, 6000, .inl cz))] → va_S A s.heap H locs → lv_has ls 5 [(0, .ref h0), (1, .int x), (2, .int rs), (3, .int k)] → W p l e (headSpec wsX6_appendNumber ({ frames := 4, cells := 0, slots := 0, locals := 85 } : Room)).room s m ([.ref h0, .int x] : List Value).toArray below meth c H locs 0 0 (MQ below (va_Qv (fun _ => (0 ≤ R.1.toInt ∧ R.1.toInt ≤ 6000)) (cE dC dI (A) [(h0, .inr (6, [.ref b0, .int R.1, .int R.2.1])), (b0, .inl (cC, 6000, .inl R.2.2))]) (A)) ([.ref h0, .int x] : List Value).toArray s 0 0 A) (F0 m 18 ls []) := by
    intro n
    induction n with
    | zero => intro rs k lz oz cz H locs ls hR hk0 hk1 hz0 hz1 hmu; exfalso; omega
    | succ n ih =>
      intro rs k lz oz cz H locs ls hR hk0 hk1 hz0 hz1 hmu hP hD hS hl
      rw [fX6_appendNumber_18] at hR
      refine lv_iload_n hx hb dX6_appendNumber_18 rfl (lv_at hl 3 rfl) ?_
      refine lv_bipush (v := 7) hx hb dX6_appendNumber_19 (by decide) ?_
      refine lv_icmp_ge (tgt := 68) hx hb dX6_appendNumber_21 (by decide) (fun c_1 => ?_) (fun c_1 => ?_)
      · rw [if_pos c_1] at hR
        have e_2 : 0 ≤ (lz : Int32).toInt ∧ (lz : Int32).toInt ≤ 6000 := by
          have k_3 : (7 : Int32).toInt = 7 := by decide
          have q_4 := i_le c_1
          try generalize Int32.toInt ln = z0 at *
          try generalize Int32.toInt lz = z1 at *
          try generalize Int32.toInt (7 : Int32) = z2 at *
          try generalize Int32.toInt k = z3 at *
          omega
        subst hR
        exact W.vret hx hb hr (fun t ht hW => ⟨⟨(), rfl, e_2, by rw [ht]; exact hP, hD⟩, hS.F ht⟩) hS.2.2 dX6_appendNumber_68
      · rw [if_neg c_1] at hR
        refine lv_iload_n hx hb dX6_appendNumber_24 rfl (lv_at hl 2 rfl) ?_
        refine lv_bipush (v := 31) hx hb dX6_appendNumber_25 (by decide) ?_
        refine lv_iand hx hb dX6_appendNumber_27 ?_
        refine lv_istore (lv' := [(4, .int (rs &&& 31)), (0, .ref h0), (1, .int x), (2, .int rs), (3, .int k)]) hx hb dX6_appendNumber_28 hl (by decide) rfl (fun ls hl => ?_)
        refine lv_iload_n hx hb dX6_appendNumber_30 rfl (lv_at hl 3 rfl) ?_
        refine lv_iconst (v := 5) hx hb dX6_appendNumber_31 (by decide) ?_
        refine lv_iushr hx hb dX6_appendNumber_32 rfl ?_
        refine lv_istore_n (lv' := [(2, .int ((rs : Int32).toUInt32 >>> ((5 : Int32).toUInt32 &&& Int32.toUInt32 31)).toInt32), (4, .int (rs &&& 31)), (0, .ref h0), (1, .int x), (3, .int k)]) hx hb dX6_appendNumber_33 rfl hl (by decide) rfl (fun ls hl => ?_)
        refine lv_aload_n hx hb dX6_appendNumber_34 rfl (lv_at hl 2 rfl) ?_
        refine va_ldcS (tx := DIG) hx hb hown hSR.2 dX6_appendNumber_35 ?_
        refine lv_iload_n hx hb dX6_appendNumber_37 rfl (lv_at hl 0 rfl) ?_
        refine lv_if_ne (tgt := 46) hx hb dX6_appendNumber_38 (by decide) (fun c_5 => ?_) (fun c_5 => ?_)
        · rw [if_neg c_5] at hR
          refine lv_iload hx hb dX6_appendNumber_46 (lv_at hl 1 rfl) ?_
          refine lv_bipush (v := 32) hx hb dX6_appendNumber_48 (by decide) ?_
          refine lv_iadd hx hb dX6_appendNumber_50 ?_
          have p_6 : 0 ≤ (((rs &&& 31) + 32)).toInt := by
            have k_7 : (7 : Int32).toInt = 7 := by decide
            have q_8 := i_nle c_1
            have k_9 : (0 : Int32).toInt = 0 := by decide
            have q_10 := i_ne c_5
            have hq8 := and31 rs
            have k_11 : (32 : Int32).toInt = 32 := by decide
            have t_12 := ti_add (a := (rs &&& 31)) (b := 32) (by omega) (by omega)
            try generalize Int32.toInt (((rs : Int32).toUInt32 >>> ((5 : Int32).toUInt32 &&& Int32.toUInt32 31)).toInt32) = z0 at *
            try generalize Int32.toInt ((rs &&& 31) + 32) = z1 at *
            try generalize Int32.toInt (rs &&& 31) = z2 at *
            try generalize Int32.toInt (32 : Int32) = z3 at *
            try generalize Int32.toInt ln = z4 at *
            try generalize Int32.toInt lz = z5 at *
            try generalize Int32.toInt (0 : Int32) = z6 at *
            try generalize Int32.toInt (7 : Int32) = z7 at *
            try generalize Int32.toInt k = z8 at *
            omega
          have p_13 : (((rs &&& 31) + 32)).toInt < 64 := by
            have k_14 : (7 : Int32).toInt = 7 := by decide
            have q_15 := i_nle c_1
            have k_16 : (0 : Int32).toInt = 0 := by decide
            have q_17 := i_ne c_5
            have hq8 := and31 rs
            have k_18 : (32 : Int32).toInt = 32 := by decide
            have t_19 := ti_add (a := (rs &&& 31)) (b := 32) (by omega) (by omega)
            try generalize Int32.toInt (((rs : Int32).toUInt32 >>> ((5 : Int32).toUInt32 &&& Int32.toUInt32 31)).toInt32) = z0 at *
            try generalize Int32.toInt ((rs &&& 31) + 32) = z1 at *
            try generalize Int32.toInt (rs &&& 31) = z2 at *
            try generalize Int32.toInt (32 : Int32) = z3 at *
            try generalize Int32.toInt ln = z4 at *
            try generalize Int32.toInt lz = z5 at *
            try generalize Int32.toInt (0 : Int32) = z6 at *
            try generalize Int32.toInt (7 : Int32) = z7 at *
            try generalize Int32.toInt k = z8 at *
            omega
          refine vp_callSi (va_Run.run (va_runV (As := [.int ((rs &&& 31) + 32)]) (rest := [.ref h0]) ⟨hx, hb, hml, hown, hts⟩ (c_J0_charAt_5068e l ak av ((rs &&& 31) + 32) p_6 p_13) (cwV 1 hts gX6_appendNumber_J0_charAt_5068e rfl rfl rfl (by decide +kernel) ⟨(Nat.le_of_ble_eq_true rfl), (Nat.le_of_ble_eq_true rfl)⟩) ⟨cS_blind, SK_recv hSK hS, (cS_pre hSK hS)⟩ rfl rfl hl.1 rfl (lv_room (Nat.le_of_ble_eq_true rfl)) dX6_appendNumber_51 ⟨Nat.le_of_ble_eq_true rfl, Nat.le_of_ble_eq_true rfl⟩)) (fun r_20 hr_20 => ?_)
          rw [bnd_eq hr_20.symm] at hR
          have p_21 : 0 ≤ lz.toInt := by
            first | exact hz0 | assumption
          have p_22 : lz.toInt ≤ 6000 := by
            first | exact hz1 | assumption
          have hPc := hP.sub (ws' := [(h0, .inr (6, [.ref b0, .int lz, .int oz])), (b0, .inl (cC, 6000, .inl cz))]) [0, 1] rfl
          have hDc := hD.sub (ws' := [(h0, .inr (6, [.ref b0, .int lz, .int oz])), (b0, .inl (cC, 6000, .inl cz))]) [0, 1] (by decide) rfl
          have hFc := va_free (wc := [(h0, .inr (6, [.ref b0, .int lz, .int oz])), (b0, .inl (cC, 6000, .inl cz))]) hD hS hA [0, 1] rfl
          refine va_callv (va_runV (As := [.int r_20]) (rest := []) ⟨hx, hb, hml, hown, hts⟩ (c_X6_append l dC dI cB cC cI cJ H.size h0 b0 cz lz oz r_20 p_21 p_22) (cwV 1 hts gX6_appendNumber_X6_append rfl rfl rfl (by decide +kernel) ⟨(Nat.le_of_ble_eq_true rfl), (Nat.le_of_ble_eq_true rfl)⟩) ⟨cP_blind, va_recv hG.1 hPc (ci := 6) (q0 := 0) rfl rfl, cP_pre hPc hG hDc⟩ rfl rfl hl.1 rfl (lv_room (Nat.le_of_ble_eq_true rfl)) dX6_appendNumber_54 ⟨Nat.le_of_ble_eq_true rfl, Nat.le_of_ble_eq_true rfl⟩) hS (fun q _ h => hFc q h) hFc (fun u t H1 locs ht hvm hw hB hz1 hk1 hS => ?_)
          obtain ⟨hP1, hD1⟩ := hB
          rw [ht] at hP1
          generalize hr_23 : fX6_append cz lz oz r_20 = r_23 at hP1 hD1 hw
          have er_23_0 := hw
          rw [bnd_eq hr_23] at hR
          obtain ⟨hP, hD⟩ := va_join (wr := []) (w1 := [(h0, .inr (6, [.ref b0, .int r_23.1, .int r_23.2.1])), (b0, .inl (cC, 6000, .inl r_23.2.2))]) hP hD [0, 1] [] rfl rfl (by decide) (by decide) hk1 hFc hP1 hD1
          generalize H1 = H at hP hS ⊢
          have hP := hP.sub (ws' := [(h0, .inr (6, [.ref b0, .int r_23.1, .int r_23.2.1])), (b0, .inl (cC, 6000, .inl r_23.2.2))]) [0, 1] rfl
          have hD := hD.sub (ws' := [(h0, .inr (6, [.ref b0, .int r_23.1, .int r_23.2.1])), (b0, .inl (cC, 6000, .inl r_23.2.2))]) [0, 1] (by decide) rfl
          refine lv_iload_n hx hb dX6_appendNumber_57 rfl (lv_at hl 0 rfl) ?_
          refine lv_if_ne (tgt := 62) hx hb dX6_appendNumber_58 (by decide) (fun c_24 => ?_) (fun c_24 => ?_)
          · refine lv_iinc (v := (k + 1)) (lv' := [(3, .int (k + 1)), (2, .int ((rs : Int32).toUInt32 >>> ((5 : Int32).toUInt32 &&& Int32.toUInt32 31)).toInt32), (4, .int (rs &&& 31)), (0, .ref h0), (1, .int x)]) hx hb dX6_appendNumber_62 hl (k := 4) rfl rfl (by decide) rfl (fun ls hl => ?_)
            refine lv_goto (tgt := 18) hx hb dX6_appendNumber_65 (by decide) ?_
            have v_30 : 0 ≤ ((k + 1)).toInt := by
              have k_31 : (7 : Int32).toInt = 7 := by decide
              have q_32 := i_nle c_1
              have k_33 : (0 : Int32).toInt = 0 := by decide
              have q_34 := i_ne c_5
              have q_35 := i_ne c_24
              have k_36 : (1 : Int32).toInt = 1 := by decide
              have t_37 := ti_add (a := k) (b := 1) (by omega) (by omega)
              try generalize Int32.toInt (((rs : Int32).toUInt32 >>> ((5 : Int32).toUInt32 &&& Int32.toUInt32 31)).toInt32) = z0 at *
              try generalize Int32.toInt (k + 1) = z1 at *
              try generalize Int32.toInt r_23.1 = z2 at *
              try generalize Int32.toInt ln = z3 at *
              try generalize Int32.toInt lz = z4 at *
              try generalize Int32.toInt (0 : Int32) = z5 at *
              try generalize Int32.toInt (1 : Int32) = z6 at *
              try generalize Int32.toInt (7 : Int32) = z7 at *
              try generalize Int32.toInt k = z8 at *
              omega
            have v_38 : ((k + 1)).toInt ≤ 7 := by
              have k_39 : (7 : Int32).toInt = 7 := by decide
              have q_40 := i_nle c_1
              have k_41 : (0 : Int32).toInt = 0 := by decide
              have q_42 := i_ne c_5
              have q_43 := i_ne c_24
              have k_44 : (1 : Int32).toInt = 1 := by decide
              have t_45 := ti_add (a := k) (b := 1) (by omega) (by omega)
              try generalize Int32.toInt (((rs : Int32).toUInt32 >>> ((5 : Int32).toUInt32 &&& Int32.toUInt32 31)).toInt32) = z0 at *
              try generalize Int32.toInt (k + 1) = z1 at *
              try generalize Int32.toInt r_23.1 = z2 at *
              try generalize Int32.toInt ln = z3 at *
              try generalize Int32.toInt lz = z4 at *
              try generalize Int32.toInt (0 : Int32) = z5 at *
              try generalize Int32.toInt (1 : Int32) = z6 at *
              try generalize Int32.toInt (7 : Int32) = z7 at *
              try generalize Int32.toInt k = z8 at *
              omega
            have v_46 : 0 ≤ r_23.1.toInt := by
              have k_47 : (7 : Int32).toInt = 7 := by decide
              have q_48 := i_nle c_1
              have k_49 : (0 : Int32).toInt = 0 := by decide
              have q_50 := i_ne c_5
              have q_51 := i_ne c_24
              try generalize Int32.toInt (((rs : Int32).toUInt32 >>> ((5 : Int32).toUInt32 &&& Int32.toUInt32 31)).toInt32) = z0 at *
              try generalize Int32.toInt r_23.1 = z1 at *
              try generalize Int32.toInt ln = z2 at *
              try generalize Int32.toInt lz = z3 at *
              try generalize Int32.toInt (0 : Int32) = z4 at *
              try generalize Int32.toInt (7 : Int32) = z5 at *
              try generalize Int32.toInt k = z6 at *
              omega
            have v_52 : r_23.1.toInt ≤ 6000 := by
              have k_53 : (7 : Int32).toInt = 7 := by decide
              have q_54 := i_nle c_1
              have k_55 : (0 : Int32).toInt = 0 := by decide
              have q_56 := i_ne c_5
              have q_57 := i_ne c_24
              try generalize Int32.toInt (((rs : Int32).toUInt32 >>> ((5 : Int32).toUInt32 &&& Int32.toUInt32 31)).toInt32) = z0 at *
              try generalize Int32.toInt r_23.1 = z1 at *
              try generalize Int32.toInt ln = z2 at *
              try generalize Int32.toInt lz = z3 at *
              try generalize Int32.toInt (0 : Int32) = z4 at *
              try generalize Int32.toInt (7 : Int32) = z5 at *
              try generalize Int32.toInt k = z6 at *
              omega
            have v_58 : 7 - ((k + 1)).toInt < ((n : Nat) : Int) := by
              have k_59 : (7 : Int32).toInt = 7 := by decide
              have q_60 := i_nle c_1
              have k_61 : (0 : Int32).toInt = 0 := by decide
              have q_62 := i_ne c_5
              have q_63 := i_ne c_24
              have k_64 : (1 : Int32).toInt = 1 := by decide
              have t_65 := ti_add (a := k) (b := 1) (by omega) (by omega)
              try generalize Int32.toInt (((rs : Int32).toUInt32 >>> ((5 : Int32).toUInt32 &&& Int32.toUInt32 31)).toInt32) = z0 at *
              try generalize Int32.toInt (k + 1) = z1 at *
              try generalize Int32.toInt r_23.1 = z2 at *
              try generalize Int32.toInt ln = z3 at *
              try generalize Int32.toInt lz = z4 at *
              try generalize Int32.toInt (0 : Int32) = z5 at *
              try generalize Int32.toInt (1 : Int32) = z6 at *
              try generalize Int32.toInt (7 : Int32) = z7 at *
              try generalize Int32.toInt k = z8 at *
              omega
            exact ih (((rs : Int32).toUInt32 >>> ((5 : Int32).toUInt32 &&& Int32.toUInt32 31)).toInt32) ((k + 1)) (r_23.1) (r_23.2.1) (r_23.2.2) _ _ ls hR v_30 v_38 v_46 v_52 v_58 hP hD hS (lv_sub hl [3, 4, 1, 0] rfl)
          · exact absurd c_24 c_5
        · rw [if_pos c_5] at hR
          refine lv_iload hx hb dX6_appendNumber_41 (lv_at hl 1 rfl) ?_
          refine lv_goto (tgt := 51) hx hb dX6_appendNumber_43 (by decide) ?_
          have p_66 : 0 ≤ ((rs &&& 31)).toInt := by
            have k_67 : (7 : Int32).toInt = 7 := by decide
            have q_68 := i_nle c_1
            have k_69 : (0 : Int32).toInt = 0 := by decide
            have q_70 := i_eq c_5
            have hq8 := and31 rs
            try generalize Int32.toInt (((rs : Int32).toUInt32 >>> ((5 : Int32).toUInt32 &&& Int32.toUInt32 31)).toInt32) = z0 at *
            try generalize Int32.toInt (rs &&& 31) = z1 at *
            try generalize Int32.toInt ln = z2 at *
            try generalize Int32.toInt lz = z3 at *
            try generalize Int32.toInt (0 : Int32) = z4 at *
            try generalize Int32.toInt (7 : Int32) = z5 at *
            try generalize Int32.toInt k = z6 at *
            omega
          have p_71 : ((rs &&& 31)).toInt < 64 := by
            have k_72 : (7 : Int32).toInt = 7 := by decide
            have q_73 := i_nle c_1
            have k_74 : (0 : Int32).toInt = 0 := by decide
            have q_75 := i_eq c_5
            have hq8 := and31 rs
            try generalize Int32.toInt (((rs : Int32).toUInt32 >>> ((5 : Int32).toUInt32 &&& Int32.toUInt32 31)).toInt32) = z0 at *
            try generalize Int32.toInt (rs &&& 31) = z1 at *
            try generalize Int32.toInt ln = z2 at *
            try generalize Int32.toInt lz = z3 at *
            try generalize Int32.toInt (0 : Int32) = z4 at *
            try generalize Int32.toInt (7 : Int32) = z5 at *
            try generalize Int32.toInt k = z6 at *
            omega
          refine vp_callSi (va_Run.run (va_runV (As := [.int (rs &&& 31)]) (rest := [.ref h0]) ⟨hx, hb, hml, hown, hts⟩ (c_J0_charAt_5068e l ak av (rs &&& 31) p_66 p_71) (cwV 1 hts gX6_appendNumber_J0_charAt_5068e rfl rfl rfl (by decide +kernel) ⟨(Nat.le_of_ble_eq_true rfl), (Nat.le_of_ble_eq_true rfl)⟩) ⟨cS_blind, SK_recv hSK hS, (cS_pre hSK hS)⟩ rfl rfl hl.1 rfl (lv_room (Nat.le_of_ble_eq_true rfl)) dX6_appendNumber_51 ⟨Nat.le_of_ble_eq_true rfl, Nat.le_of_ble_eq_true rfl⟩)) (fun r_76 hr_76 => ?_)
          rw [bnd_eq hr_76.symm] at hR
          have p_77 : 0 ≤ lz.toInt := by
            first | exact hz0 | assumption
          have p_78 : lz.toInt ≤ 6000 := by
            first | exact hz1 | assumption
          have hPc := hP.sub (ws' := [(h0, .inr (6, [.ref b0, .int lz, .int oz])), (b0, .inl (cC, 6000, .inl cz))]) [0, 1] rfl
          have hDc := hD.sub (ws' := [(h0, .inr (6, [.ref b0, .int lz, .int oz])), (b0, .inl (cC, 6000, .inl cz))]) [0, 1] (by decide) rfl
          have hFc := va_free (wc := [(h0, .inr (6, [.ref b0, .int lz, .int oz])), (b0, .inl (cC, 6000, .inl cz))]) hD hS hA [0, 1] rfl
          refine va_callv (va_runV (As := [.int r_76]) (rest := []) ⟨hx, hb, hml, hown, hts⟩ (c_X6_append l dC dI cB cC cI cJ H.size h0 b0 cz lz oz r_76 p_77 p_78) (cwV 1 hts gX6_appendNumber_X6_append rfl rfl rfl (by decide +kernel) ⟨(Nat.le_of_ble_eq_true rfl), (Nat.le_of_ble_eq_true rfl)⟩) ⟨cP_blind, va_recv hG.1 hPc (ci := 6) (q0 := 0) rfl rfl, cP_pre hPc hG hDc⟩ rfl rfl hl.1 rfl (lv_room (Nat.le_of_ble_eq_true rfl)) dX6_appendNumber_54 ⟨Nat.le_of_ble_eq_true rfl, Nat.le_of_ble_eq_true rfl⟩) hS (fun q _ h => hFc q h) hFc (fun u t H1 locs ht hvm hw hB hz1 hk1 hS => ?_)
          obtain ⟨hP1, hD1⟩ := hB
          rw [ht] at hP1
          generalize hr_79 : fX6_append cz lz oz r_76 = r_79 at hP1 hD1 hw
          have er_79_0 := hw
          rw [bnd_eq hr_79] at hR
          obtain ⟨hP, hD⟩ := va_join (wr := []) (w1 := [(h0, .inr (6, [.ref b0, .int r_79.1, .int r_79.2.1])), (b0, .inl (cC, 6000, .inl r_79.2.2))]) hP hD [0, 1] [] rfl rfl (by decide) (by decide) hk1 hFc hP1 hD1
          generalize H1 = H at hP hS ⊢
          have hP := hP.sub (ws' := [(h0, .inr (6, [.ref b0, .int r_79.1, .int r_79.2.1])), (b0, .inl (cC, 6000, .inl r_79.2.2))]) [0, 1] rfl
          have hD := hD.sub (ws' := [(h0, .inr (6, [.ref b0, .int r_79.1, .int r_79.2.1])), (b0, .inl (cC, 6000, .inl r_79.2.2))]) [0, 1] (by decide) rfl
          refine lv_iload_n hx hb dX6_appendNumber_57 rfl (lv_at hl 0 rfl) ?_
          refine lv_if_ne (tgt := 62) hx hb dX6_appendNumber_58 (by decide) (fun c_80 => ?_) (fun c_80 => ?_)
          · exact absurd c_5 c_80
          · have e_81 : 0 ≤ (r_79.1 : Int32).toInt ∧ (r_79.1 : Int32).toInt ≤ 6000 := by
              have k_82 : (7 : Int32).toInt = 7 := by decide
              have q_83 := i_nle c_1
              have k_84 : (0 : Int32).toInt = 0 := by decide
              have q_85 := i_eq c_5
              have q_86 := i_eq c_80
              try generalize Int32.toInt (((rs : Int32).toUInt32 >>> ((5 : Int32).toUInt32 &&& Int32.toUInt32 31)).toInt32) = z0 at *
              try generalize Int32.toInt r_79.1 = z1 at *
              try generalize Int32.toInt ln = z2 at *
              try generalize Int32.toInt lz = z3 at *
              try generalize Int32.toInt (0 : Int32) = z4 at *
              try generalize Int32.toInt (7 : Int32) = z5 at *
              try generalize Int32.toInt k = z6 at *
              omega
            subst hR
            exact W.vret hx hb hr (fun t ht hW => ⟨⟨(), rfl, e_81, by rw [ht]; exact hP, hD⟩, hS.F ht⟩) hS.2.2 dX6_appendNumber_61
  refine lv_iload_n hx hb dX6_appendNumber_0 rfl (lv_at hl 1 rfl) ?_
  refine lv_if_ge (tgt := 12) hx hb dX6_appendNumber_1 (by decide) (fun c_87 => ?_) (fun c_87 => ?_)
  · rw [if_pos c_87] at hR
    refine lv_iconst (v := 2) hx hb dX6_appendNumber_12 (by decide) ?_
    refine lv_iload_n hx hb dX6_appendNumber_13 rfl (lv_at hl 1 rfl) ?_
    refine lv_imul hx hb dX6_appendNumber_14 ?_
    refine lv_istore_n (lv' := [(2, .int (2 * x)), (0, .ref h0), (1, .int x)]) hx hb dX6_appendNumber_15 rfl hl (by decide) rfl (fun ls hl => ?_)
    refine lv_iconst (v := 0) hx hb dX6_appendNumber_16 (by decide) ?_
    refine lv_istore_n (lv' := [(3, .int 0), (2, .int (2 * x)), (0, .ref h0), (1, .int x)]) hx hb dX6_appendNumber_17 rfl hl (by decide) rfl (fun ls hl => ?_)
    have v_90 : 0 ≤ (0 : Int32).toInt := by
      have k_91 : (0 : Int32).toInt = 0 := by decide
      have q_92 := i_le c_87
      try generalize Int32.toInt ln = z0 at *
      try generalize Int32.toInt (0 : Int32) = z1 at *
      try generalize Int32.toInt x = z2 at *
      omega
    have v_93 : (0 : Int32).toInt ≤ 7 := by
      have k_94 : (0 : Int32).toInt = 0 := by decide
      have q_95 := i_le c_87
      try generalize Int32.toInt ln = z0 at *
      try generalize Int32.toInt (0 : Int32) = z1 at *
      try generalize Int32.toInt x = z2 at *
      omega
    have v_96 : 0 ≤ ln.toInt := by
      have k_97 : (0 : Int32).toInt = 0 := by decide
      have q_98 := i_le c_87
      try generalize Int32.toInt ln = z0 at *
      try generalize Int32.toInt (0 : Int32) = z1 at *
      try generalize Int32.toInt x = z2 at *
      omega
    have v_99 : ln.toInt ≤ 6000 := by
      have k_100 : (0 : Int32).toInt = 0 := by decide
      have q_101 := i_le c_87
      try generalize Int32.toInt ln = z0 at *
      try generalize Int32.toInt (0 : Int32) = z1 at *
      try generalize Int32.toInt x = z2 at *
      omega
    have v_102 : 7 - (0 : Int32).toInt < ((8 : Nat) : Int) := by
      have k_103 : (0 : Int32).toInt = 0 := by decide
      have q_104 := i_le c_87
      try generalize Int32.toInt ln = z0 at *
      try generalize Int32.toInt (0 : Int32) = z1 at *
      try generalize Int32.toInt x = z2 at *
      omega
    exact loop_18 8 ((2 * x)) (0) (ln) (ov) (ch) _ _ ls hR v_90 v_93 v_96 v_99 v_102 hP hD hS (lv_sub hl [2, 3, 1, 0] rfl)
  · rw [if_neg c_87] at hR
    refine lv_iconst (v := 1) hx hb dX6_appendNumber_4 (by decide) ?_
    refine lv_iconst (v := 2) hx hb dX6_appendNumber_5 (by decide) ?_
    refine lv_iload_n hx hb dX6_appendNumber_6 rfl (lv_at hl 1 rfl) ?_
    refine lv_imul hx hb dX6_appendNumber_7 ?_
    refine lv_isub hx hb dX6_appendNumber_8 ?_
    refine lv_goto (tgt := 15) hx hb dX6_appendNumber_9 (by decide) ?_
    refine lv_istore_n (lv' := [(2, .int (1 - (2 * x))), (0, .ref h0), (1, .int x)]) hx hb dX6_appendNumber_15 rfl hl (by decide) rfl (fun ls hl => ?_)
    refine lv_iconst (v := 0) hx hb dX6_appendNumber_16 (by decide) ?_
    refine lv_istore_n (lv' := [(3, .int 0), (2, .int (1 - (2 * x))), (0, .ref h0), (1, .int x)]) hx hb dX6_appendNumber_17 rfl hl (by decide) rfl (fun ls hl => ?_)
    have v_107 : 0 ≤ (0 : Int32).toInt := by
      have k_108 : (0 : Int32).toInt = 0 := by decide
      have q_109 := i_nle c_87
      try generalize Int32.toInt ln = z0 at *
      try generalize Int32.toInt (0 : Int32) = z1 at *
      try generalize Int32.toInt x = z2 at *
      omega
    have v_110 : (0 : Int32).toInt ≤ 7 := by
      have k_111 : (0 : Int32).toInt = 0 := by decide
      have q_112 := i_nle c_87
      try generalize Int32.toInt ln = z0 at *
      try generalize Int32.toInt (0 : Int32) = z1 at *
      try generalize Int32.toInt x = z2 at *
      omega
    have v_113 : 0 ≤ ln.toInt := by
      have k_114 : (0 : Int32).toInt = 0 := by decide
      have q_115 := i_nle c_87
      try generalize Int32.toInt ln = z0 at *
      try generalize Int32.toInt (0 : Int32) = z1 at *
      try generalize Int32.toInt x = z2 at *
      omega
    have v_116 : ln.toInt ≤ 6000 := by
      have k_117 : (0 : Int32).toInt = 0 := by decide
      have q_118 := i_nle c_87
      try generalize Int32.toInt ln = z0 at *
      try generalize Int32.toInt (0 : Int32) = z1 at *
      try generalize Int32.toInt x = z2 at *
      omega
    have v_119 : 7 - (0 : Int32).toInt < ((8 : Nat) : Int) := by
      have k_120 : (0 : Int32).toInt = 0 := by decide
      have q_121 := i_nle c_87
      try generalize Int32.toInt ln = z0 at *
      try generalize Int32.toInt (0 : Int32) = z1 at *
      try generalize Int32.toInt x = z2 at *
      omega
    exact loop_18 8 ((1 - (2 * x))) (0) (ln) (ov) (ch) _ _ ls hR v_107 v_110 v_113 v_116 v_119 hP hD hS (lv_sub hl [2, 3, 1, 0] rfl)

theorem inc_X7_exchangeText_7 : ∀ w ∈ u_ws RX7 TX7 4, w ∈ wsX7_exchangeText := by decide +kernel
set_option maxHeartbeats 4000000 in
set_option maxRecDepth 100000 in
theorem c_X7_exchangeText (l : Launch) (dC : Nat → ClassId) (dI : Nat → Nat → Nat) (cB cC cI cJ : ClassId) (sz : Nat) (h0 w0 w1 w2 h1 : Nat) (wl : Int32) : Met l yX7_exchangeText wsX7_exchangeText ({ frames := 0, cells := 0, slots := 0, locals := 0 } : Room) (cP dC dI cB cC cI cJ [.ref h0, .ref h1] sz [(h0, .inr (7, [.ref w0, .ref w1, .ref w2, .int wl]))]) (va_Qr (S := Unit) (fun _ => True) (fun _ a t => a = w2 ∧ cE dC dI (va_A [(h0, .inr (7, [.ref w0, .ref w1, .ref w2, .int wl]))] sz) [(h0, .inr (7, [.ref w0, .ref w1, .ref h1, .int wl]))] () t) (va_A [(h0, .inr (7, [.ref w0, .ref w1, .ref w2, .int wl]))] sz)) 0 0 (va_A [(h0, .inr (7, [.ref w0, .ref w1, .ref w2, .int wl]))] sz) := by
  refine Met.ofW (cc := cX7_exchangeText) (maxL := 3) (ret := (some (.object "MappingDesk$Text"))) (by decide) rfl ?_
  intro p e s m args below meth c s₁ B hml hv
  obtain ⟨rfl, hsz, hP, hG, hD0⟩ := hv
  have hx := B.exec
  have hb := B.bytes
  have hr := B.returns
  have hts := atoms_spec (ws := wsX7_exchangeText) B.pre
  have hown : s.vm.findClass RX7 = some m.cls := findClass_of_methodNamed B.named
  have hlocks := B.notSynchronized
  subst hsz
  have hD := hD0.self (sz := s.heap.size)
  generalize hAe : va_A [(h0, .inr (7, [.ref w0, .ref w1, .ref w2, .int wl]))] s.heap.size = A at hD ⊢
  have hA : ∀ q : Nat, s.heap.size ≤ q → A q := fun q h => by rw [← hAe]; exact Or.inr h
  obtain ⟨H, hH⟩ : ∃ H : Heap, H = s.heap := ⟨_, rfl⟩
  have hS : va_S A s.heap H [] := by rw [hH]; exact va_S.rf
  rw [← hH] at hP ⊢
  have hl := lv_entry ([.ref h0, .ref h1]) (n := 3) (Nat.le_of_ble_eq_true rfl)
  rw [lg_entry_eq]
  generalize (lg_sl ([.ref h0, .ref h1]) ++ List.replicate (3 - (lg_sl ([.ref h0, .ref h1])).length) Slot.unset).toArray = ls at hl ⊢
  have hl : lv_has ls 3 [(0, .ref h0), (1, .ref h1)] := hl
  refine lv_aload_n hx hb dX7_exchangeText_0 rfl (lv_at hl 0 rfl) ?_
  refine va_get (D := (dC, dI)) (ci := 7) (v := .ref w2) (C := RX7) (T := TX7) (N := 4) hx hb hts inc_X7_exchangeText_7 hown hG.1 hP 0 rfl rfl 2 (by decide) (hts (.fieldLink RX7 26 "MappingDesk$Writer" "made" "LMappingDesk$Text;") (by decide +kernel)) (fun _ h9 => h9) rfl dX7_exchangeText_1 ?_
  refine lv_astore_n (lv' := [(2, .ref w2), (0, .ref h0), (1, .ref h1)]) hx hb dX7_exchangeText_4 rfl hl (by decide) rfl (fun ls hl => ?_)
  refine lv_aload_n hx hb dX7_exchangeText_5 rfl (lv_at hl 1 rfl) ?_
  refine lv_aload_n hx hb dX7_exchangeText_6 rfl (lv_at hl 2 rfl) ?_
  refine va_put (D := (dC, dI)) (ci := 7) (v := .ref h1) (ty := .object "MappingDesk$Text") (C := RX7) (T := TX7) (N := 4) hx hb hts inc_X7_exchangeText_7 tyX7 tyX7_ok nmX7 hown hG.1 hP hD hS 0 rfl rfl 2 (by decide) (hts (.fieldLink RX7 26 "MappingDesk$Writer" "made" "LMappingDesk$Text;") (by decide +kernel)) (fun _ h9 => h9) rfl (by decide +kernel) rfl rfl (Nat.le_of_ble_eq_true rfl) dX7_exchangeText_7 (fun H locs hP hD hS => ?_)
  have hP : va_P (dC, dI) vwCl [(h0, .inr (7, [.ref w0, .ref w1, .ref h1, .int wl]))] H := hP
  have hD : va_D A [(h0, .inr (7, [.ref w0, .ref w1, .ref h1, .int wl]))] := hD
  refine lv_aload_n hx hb dX7_exchangeText_10 rfl (lv_at hl 0 rfl) ?_
  skip
  exact W.aret (v := .ref w2) hx hb hr (Or.inl ⟨_, rfl⟩) (Or.inr ⟨_, rfl⟩) (fun t ht hW => ⟨⟨(), w2, rfl, trivial, rfl, by rw [ht]; exact hP, hD⟩, hS.F ht⟩) hS.2.2 dX7_exchangeText_11

def fX7_goToLine_5 (wl : Int32) (a0 a1 a2 a3 a4 : Int32) (ch : Nat → Int32) (ln ov : Int32) (y : Int32) : Nat → Int32 → Int32 → Int32 → (Nat → Int32) → Int32 × Int32 × Int32 × Int32 × (Nat → Int32)
  | 0, _, _, _, _ => (0, 0, 0, 0, (fun _ => 0))
  | n + 1, k, lz, oz, cz =>
    if y ≤ k then
      bnd (fX0_startLine a0 a1 a2 a3 a4) fun r_2 =>
      (y, r_2, lz, oz, cz)
    else
      bnd (fX6_append cz lz oz 59) fun r_9 =>
      fX7_goToLine_5 wl a0 a1 a2 a3 a4 ch ln ov y n (k + 1) r_9.1 r_9.2.1 r_9.2.2
def fX7_goToLine (wl : Int32) (a0 a1 a2 a3 a4 : Int32) (ch : Nat → Int32) (ln ov : Int32) (y : Int32) : Int32 × Int32 × Int32 × Int32 × (Nat → Int32) :=
  fX7_goToLine_5 wl a0 a1 a2 a3 a4 ch ln ov y 201 wl ln ov ch
theorem inc_X7_goToLine_7 : ∀ w ∈ u_ws RX7 TX7 4, w ∈ wsX7_goToLine := by decide +kernel
set_option maxHeartbeats 4000000 in
set_option maxRecDepth 100000 in
theorem c_X7_goToLine (l : Launch) (dC : Nat → ClassId) (dI : Nat → Nat → Nat) (cB cC cI cJ : ClassId) (sz : Nat) (h0 w0 w1 w2 b0 : Nat) (wl : Int32) (a0 a1 a2 a3 a4 : Int32) (ch : Nat → Int32) (ln ov : Int32) (y : Int32) (hl0 : 0 ≤ ln.toInt) (hl1 : ln.toInt ≤ 6000) (hw0 : 0 ≤ wl.toInt) (hy1 : y.toInt ≤ 199) : Met l yX7_goToLine wsX7_goToLine ({ frames := 1, cells := 0, slots := 0, locals := 21 } : Room) (cP dC dI cB cC cI cJ [.ref h0, .int y] sz [(h0, .inr (7, [.ref w0, .ref w1, .ref w2, .int wl])), (w0, .inr (0, [.int a0, .int a1, .int a2, .int a3, .int a4])), (w2, .inr (6, [.ref b0, .int ln, .int ov])), (b0, .inl (cC, 6000, .inl ch))]) (va_Qv (fun _ => (0 ≤ (fX7_goToLine wl a0 a1 a2 a3 a4 ch ln ov y).2.2.1.toInt ∧ (fX7_goToLine wl a0 a1 a2 a3 a4 ch ln ov y).2.2.1.toInt ≤ 6000) ∧ ((fX7_goToLine wl a0 a1 a2 a3 a4 ch ln ov y).1.toInt = y.toInt)) (cE dC dI (va_A [(h0, .inr (7, [.ref w0, .ref w1, .ref w2, .int wl])), (w0, .inr (0, [.int a0, .int a1, .int a2, .int a3, .int a4])), (w2, .inr (6, [.ref b0, .int ln, .int ov])), (b0, .inl (cC, 6000, .inl ch))] sz) [(h0, .inr (7, [.ref w0, .ref w1, .ref w2, .int (fX7_goToLine wl a0 a1 a2 a3 a4 ch ln ov y).1])), (w0, .inr (0, [.int (fX7_goToLine wl a0 a1 a2 a3 a4 ch ln ov y).2.1, .int a1, .int a2, .int a3, .int a4])), (w2, .inr (6, [.ref b0, .int (fX7_goToLine wl a0 a1 a2 a3 a4 ch ln ov y).2.2.1, .int (fX7_goToLine wl a0 a1 a2 a3 a4 ch ln ov y).2.2.2.1])), (b0, .inl (cC, 6000, .inl (fX7_goToLine wl a0 a1 a2 a3 a4 ch ln ov y).2.2.2.2))]) (va_A [(h0, .inr (7, [.ref w0, .ref w1, .ref w2, .int wl])), (w0, .inr (0, [.int a0, .int a1, .int a2, .int a3, .int a4])), (w2, .inr (6, [.ref b0, .int ln, .int ov])), (b0, .inl (cC, 6000, .inl ch))] sz)) 0 0 (va_A [(h0, .inr (7, [.ref w0, .ref w1, .ref w2, .int wl])), (w0, .inr (0, [.int a0, .int a1, .int a2, .int a3, .int a4])), (w2, .inr (6, [.ref b0, .int ln, .int ov])), (b0, .inl (cC, 6000, .inl ch))] sz) := by
  refine Met.ofW (cc := cX7_goToLine) (maxL := 3) (ret := none) (by decide) rfl ?_
  intro p e s m args below meth c s₁ B hml hv
  obtain ⟨rfl, hsz, hP, hG, hD0⟩ := hv
  have hx := B.exec
  have hb := B.bytes
  have hr := B.returns
  have hts := atoms_spec (ws := wsX7_goToLine) B.pre
  have hown : s.vm.findClass RX7 = some m.cls := findClass_of_methodNamed B.named
  have hlocks := B.notSynchronized
  subst hsz
  have hD := hD0.self (sz := s.heap.size)
  generalize hAe : va_A [(h0, .inr (7, [.ref w0, .ref w1, .ref w2, .int wl])), (w0, .inr (0, [.int a0, .int a1, .int a2, .int a3, .int a4])), (w2, .inr (6, [.ref b0, .int ln, .int ov])), (b0, .inl (cC, 6000, .inl ch))] s.heap.size = A at hD ⊢
  have hA : ∀ q : Nat, s.heap.size ≤ q → A q := fun q h => by rw [← hAe]; exact Or.inr h
  obtain ⟨H, hH⟩ : ∃ H : Heap, H = s.heap := ⟨_, rfl⟩
  have hS : va_S A s.heap H [] := by rw [hH]; exact va_S.rf
  rw [← hH] at hP ⊢
  generalize hR : fX7_goToLine wl a0 a1 a2 a3 a4 ch ln ov y = R
  unfold fX7_goToLine at hR
  have hl := lv_entry ([.ref h0, .int y]) (n := 3) (Nat.le_of_ble_eq_true rfl)
  rw [lg_entry_eq]
  generalize (lg_sl ([.ref h0, .int y]) ++ List.replicate (3 - (lg_sl ([.ref h0, .int y])).length) Slot.unset).toArray = ls at hl ⊢
  have hl : lv_has ls 3 [(0, .ref h0), (1, .int y)] := hl
  have loop_5 : ∀ (n : Nat), ∀ (k : Int32) (lz : Int32) (oz : Int32) (cz : Nat → Int32) (H : Heap) (locs : List Loc) (ls : Array Slot), fX7_goToLine_5 wl a0 a1 a2 a3 a4 ch ln ov y n k lz oz cz = R → (0 ≤ k.toInt) → (0 ≤ lz.toInt) → (lz.toInt ≤ 6000) → (0 < ((n : Nat) : Int) ∧ (k.toInt < y.toInt → y.toInt - k.toInt < ((n : Nat) : Int))) → va_P (dC, dI) vwCl [(h0, .inr (7, [.ref w0, .ref w1, .ref w2, .int wl])), (w0, .inr (0, [.int a0, .int a1, .int a2, .int a3, .int a4])), (w2, .inr (6, [.ref b0, .int lz, .int oz])), (b0, .inl (cC, 6000, .inl cz))] H → va_D A [(h0, .inr (7, [.ref w0, .ref w1, .ref w2, .int wl])), (w0, .inr (0, [.int a0, .int a1, .int a2, .int a3, .int a4])), (w2, .inr (6, [.ref b0, .int lz, .int oz])), (b0, .inl (cC, 6000, .inl cz))] → va_S A s.heap H locs → lv_has ls 3 [(0, .ref h0), (1, .int y), (2, .int k)] → W p l e (headSpec wsX7_goToLine ({ frames := 1, cells := 0, slots := 0, locals := 21 } : Room)).room s m ([.ref h0, .int y] : List Value).toArray below meth c H locs 0 0 (MQ below (va_Qv (fun _ => (0 ≤ R.2.2.1.toInt ∧ R.2.2.1.toInt ≤ 6000) ∧ (R.1.toInt = y.toInt)) (cE dC dI (A) [(h0, .inr (7, [.ref w0, .ref w1, .ref w2, .int R.1])), (w0, .inr (0, [.int R.2.1, .int a1, .int a2, .int a3, .int a4])), (w2, .inr (6, [.ref b0, .int R.2.2.1, .int R.2.2.2.1])), (b0, .inl (cC, 6000, .inl R.2.2.2.2))]) (A)) ([.ref h0, .int y] : List Value).toArray s 0 0 A) (F0 m 5 ls []) := by
    intro n
    induction n with
    | zero => intro k lz oz cz H locs ls hR hk0 hz0 hz1 hmu; exfalso; omega
    | succ n ih =>
      intro k lz oz cz H locs ls hR hk0 hz0 hz1 hmu hP hD hS hl
      rw [fX7_goToLine_5] at hR
      refine lv_iload_n hx hb dX7_goToLine_5 rfl (lv_at hl 2 rfl) ?_
      refine lv_iload_n hx hb dX7_goToLine_6 rfl (lv_at hl 1 rfl) ?_
      refine lv_icmp_ge (tgt := 25) hx hb dX7_goToLine_7 (by decide) (fun c_1 => ?_) (fun c_1 => ?_)
      · rw [if_pos c_1] at hR
        refine lv_aload_n hx hb dX7_goToLine_25 rfl (lv_at hl 0 rfl) ?_
        refine lv_iload_n hx hb dX7_goToLine_26 rfl (lv_at hl 1 rfl) ?_
        refine va_put (D := (dC, dI)) (ci := 7) (v := .int y) (ty := .int) (C := RX7) (T := TX7) (N := 4) hx hb hts inc_X7_goToLine_7 tyX7 tyX7_ok nmX7 hown hG.1 hP hD hS 0 rfl rfl 3 (by decide) (hts (.fieldLink RX7 36 "MappingDesk$Writer" "line" "I") (by decide +kernel)) (fun _ h9 => h9) rfl (by decide +kernel) rfl rfl (Nat.le_of_ble_eq_true rfl) dX7_goToLine_27 (fun H locs hP hD hS => ?_)
        have hP : va_P (dC, dI) vwCl [(h0, .inr (7, [.ref w0, .ref w1, .ref w2, .int y])), (w0, .inr (0, [.int a0, .int a1, .int a2, .int a3, .int a4])), (w2, .inr (6, [.ref b0, .int lz, .int oz])), (b0, .inl (cC, 6000, .inl cz))] H := hP
        have hD : va_D A [(h0, .inr (7, [.ref w0, .ref w1, .ref w2, .int y])), (w0, .inr (0, [.int a0, .int a1, .int a2, .int a3, .int a4])), (w2, .inr (6, [.ref b0, .int lz, .int oz])), (b0, .inl (cC, 6000, .inl cz))] := hD
        refine lv_aload_n hx hb dX7_goToLine_30 rfl (lv_at hl 0 rfl) ?_
        refine va_get (D := (dC, dI)) (ci := 7) (v := .ref w0) (C := RX7) (T := TX7) (N := 4) hx hb hts inc_X7_goToLine_7 hown hG.1 hP 0 rfl rfl 0 (by decide) (hts (.fieldLink RX7 10 "MappingDesk$Writer" "ahead" "LMappingDesk$Ahead;") (by decide +kernel)) (fun _ h9 => h9) rfl dX7_goToLine_31 ?_
        have hPc := hP.sub (ws' := [(w0, .inr (0, [.int a0, .int a1, .int a2, .int a3, .int a4]))]) [1] rfl
        have hDc := hD.sub (ws' := [(w0, .inr (0, [.int a0, .int a1, .int a2, .int a3, .int a4]))]) [1] (by decide) rfl
        have hFc := va_free (wc := [(w0, .inr (0, [.int a0, .int a1, .int a2, .int a3, .int a4]))]) hD hS hA [1] rfl
        refine va_callv (va_runVN (C := RX0) (As := []) (rest := []) ⟨hx, hb, hml, hown, hts⟩ (c_X0_startLine l dC dI cB cC cI cJ H.size w0 a0 a1 a2 a3 a4 ) ⟨va_cnB 0 hts gX7_goToLine_X0_startLine_n69 rfl rfl rfl (hG.nm (A := #[]) (w := .methodLinkNest RX7 69 yX0_startLine "MappingDesk") (by decide +kernel)) (hts (.initialized RX0) (by decide +kernel)) (by decide +kernel) ⟨(Nat.le_of_ble_eq_true rfl), (Nat.le_of_ble_eq_true rfl)⟩, hts (.instanceMethod yX0_startLine) (by decide +kernel), hts (.selects RX0 yX0_startLine yX0_startLine) (by decide +kernel)⟩ ⟨cP_blind, va_recv hG.1 hPc (ci := 0) (q0 := 0) rfl rfl, cP_pre hPc hG hDc⟩ rfl rfl hl.1 rfl (lv_room (Nat.le_of_ble_eq_true rfl)) dX7_goToLine_34 ⟨Nat.le_of_ble_eq_true rfl, Nat.le_of_ble_eq_true rfl⟩) hS (fun q _ h => hFc q h) hFc (fun u t H1 locs ht hvm hw hB hz1 hk1 hS => ?_)
        obtain ⟨hP1, hD1⟩ := hB
        rw [ht] at hP1
        generalize hr_2 : fX0_startLine a0 a1 a2 a3 a4 = r_2 at hP1 hD1
        rw [bnd_eq hr_2] at hR
        obtain ⟨hP, hD⟩ := va_join (wr := [(h0, .inr (7, [.ref w0, .ref w1, .ref w2, .int y])), (w2, .inr (6, [.ref b0, .int lz, .int oz])), (b0, .inl (cC, 6000, .inl cz))]) (w1 := [(w0, .inr (0, [.int r_2, .int a1, .int a2, .int a3, .int a4]))]) hP hD [1] [0, 2, 3] rfl rfl (by decide) (by decide) hk1 hFc hP1 hD1
        generalize H1 = H at hP hS ⊢
        have hP := hP.sub (ws' := [(h0, .inr (7, [.ref w0, .ref w1, .ref w2, .int y])), (w0, .inr (0, [.int r_2, .int a1, .int a2, .int a3, .int a4])), (w2, .inr (6, [.ref b0, .int lz, .int oz])), (b0, .inl (cC, 6000, .inl cz))]) [0, 3, 1, 2] rfl
        have hD := hD.sub (ws' := [(h0, .inr (7, [.ref w0, .ref w1, .ref w2, .int y])), (w0, .inr (0, [.int r_2, .int a1, .int a2, .int a3, .int a4])), (w2, .inr (6, [.ref b0, .int lz, .int oz])), (b0, .inl (cC, 6000, .inl cz))]) [0, 3, 1, 2] (by decide) rfl
        have e_3 : 0 ≤ (lz : Int32).toInt ∧ (lz : Int32).toInt ≤ 6000 := by
          clear hmu
          have q_4 := i_le c_1
          try generalize Int32.toInt ln = z0 at *
          try generalize Int32.toInt lz = z1 at *
          try generalize Int32.toInt wl = z2 at *
          try generalize Int32.toInt k = z3 at *
          try generalize Int32.toInt y = z4 at *
          omega
        have e_5 : (y : Int32).toInt = y.toInt := by
          clear hmu
          have q_6 := i_le c_1
          try generalize Int32.toInt ln = z0 at *
          try generalize Int32.toInt lz = z1 at *
          try generalize Int32.toInt wl = z2 at *
          try generalize Int32.toInt k = z3 at *
          try generalize Int32.toInt y = z4 at *
          omega
        subst hR
        exact W.vret hx hb hr (fun t ht hW => ⟨⟨(), rfl, ⟨e_3, e_5⟩, by rw [ht]; exact hP, hD⟩, hS.F ht⟩) hS.2.2 dX7_goToLine_37
      · rw [if_neg c_1] at hR
        refine lv_aload_n hx hb dX7_goToLine_10 rfl (lv_at hl 0 rfl) ?_
        refine va_get (D := (dC, dI)) (ci := 7) (v := .ref w2) (C := RX7) (T := TX7) (N := 4) hx hb hts inc_X7_goToLine_7 hown hG.1 hP 0 rfl rfl 2 (by decide) (hts (.fieldLink RX7 26 "MappingDesk$Writer" "made" "LMappingDesk$Text;") (by decide +kernel)) (fun _ h9 => h9) rfl dX7_goToLine_11 ?_
        refine lv_bipush (v := 59) hx hb dX7_goToLine_14 (by decide) ?_
        have p_7 : 0 ≤ lz.toInt := by
          first | exact hz0 | assumption
        have p_8 : lz.toInt ≤ 6000 := by
          first | exact hz1 | assumption
        have hPc := hP.sub (ws' := [(w2, .inr (6, [.ref b0, .int lz, .int oz])), (b0, .inl (cC, 6000, .inl cz))]) [2, 3] rfl
        have hDc := hD.sub (ws' := [(w2, .inr (6, [.ref b0, .int lz, .int oz])), (b0, .inl (cC, 6000, .inl cz))]) [2, 3] (by decide) rfl
        have hFc := va_free (wc := [(w2, .inr (6, [.ref b0, .int lz, .int oz])), (b0, .inl (cC, 6000, .inl cz))]) hD hS hA [2, 3] rfl
        refine va_callv (va_runVN (C := RX6) (As := [.int 59]) (rest := []) ⟨hx, hb, hml, hown, hts⟩ (c_X6_append l dC dI cB cC cI cJ H.size w2 b0 cz lz oz 59 p_7 p_8) ⟨va_cnB 1 hts gX7_goToLine_X6_append_n50 rfl rfl rfl (hG.nm (A := #[]) (w := .methodLinkNest RX7 50 yX6_append "MappingDesk") (by decide +kernel)) (hts (.initialized RX6) (by decide +kernel)) (by decide +kernel) ⟨(Nat.le_of_ble_eq_true rfl), (Nat.le_of_ble_eq_true rfl)⟩, hts (.instanceMethod yX6_append) (by decide +kernel), hts (.selects RX6 yX6_append yX6_append) (by decide +kernel)⟩ ⟨cP_blind, va_recv hG.1 hPc (ci := 6) (q0 := 0) rfl rfl, cP_pre hPc hG hDc⟩ rfl rfl hl.1 rfl (lv_room (Nat.le_of_ble_eq_true rfl)) dX7_goToLine_16 ⟨Nat.le_of_ble_eq_true rfl, Nat.le_of_ble_eq_true rfl⟩) hS (fun q _ h => hFc q h) hFc (fun u t H1 locs ht hvm hw hB hz1 hk1 hS => ?_)
        obtain ⟨hP1, hD1⟩ := hB
        rw [ht] at hP1
        generalize hr_9 : fX6_append cz lz oz 59 = r_9 at hP1 hD1 hw
        have er_9_0 := hw
        rw [bnd_eq hr_9] at hR
        obtain ⟨hP, hD⟩ := va_join (wr := [(h0, .inr (7, [.ref w0, .ref w1, .ref w2, .int wl])), (w0, .inr (0, [.int a0, .int a1, .int a2, .int a3, .int a4]))]) (w1 := [(w2, .inr (6, [.ref b0, .int r_9.1, .int r_9.2.1])), (b0, .inl (cC, 6000, .inl r_9.2.2))]) hP hD [2, 3] [0, 1] rfl rfl (by decide) (by decide) hk1 hFc hP1 hD1
        generalize H1 = H at hP hS ⊢
        have hP := hP.sub (ws' := [(h0, .inr (7, [.ref w0, .ref w1, .ref w2, .int wl])), (w0, .inr (0, [.int a0, .int a1, .int a2, .int a3, .int a4])), (w2, .inr (6, [.ref b0, .int r_9.1, .int r_9.2.1])), (b0, .inl (cC, 6000, .inl r_9.2.2))]) [0, 1, 2, 3] rfl
        have hD := hD.sub (ws' := [(h0, .inr (7, [.ref w0, .ref w1, .ref w2, .int wl])), (w0, .inr (0, [.int a0, .int a1, .int a2, .int a3, .int a4])), (w2, .inr (6, [.ref b0, .int r_9.1, .int r_9.2.1])), (b0, .inl (cC, 6000, .inl r_9.2.2))]) [0, 1, 2, 3] (by decide) rfl
        refine lv_iinc (v := (k + 1)) (lv' := [(2, .int (k + 1)), (0, .ref h0), (1, .int y)]) hx hb dX7_goToLine_19 hl (k := 2) rfl rfl (by decide) rfl (fun ls hl => ?_)
        refine lv_goto (tgt := 5) hx hb dX7_goToLine_22 (by decide) ?_
        have v_11 : 0 ≤ ((k + 1)).toInt := by
          clear hmu
          have q_12 := i_nle c_1
          have k_13 : (1 : Int32).toInt = 1 := by decide
          have t_14 := ti_add (a := k) (b := 1) (by omega) (by omega)
          try generalize Int32.toInt (k + 1) = z0 at *
          try generalize Int32.toInt r_9.1 = z1 at *
          try generalize Int32.toInt ln = z2 at *
          try generalize Int32.toInt lz = z3 at *
          try generalize Int32.toInt wl = z4 at *
          try generalize Int32.toInt (1 : Int32) = z5 at *
          try generalize Int32.toInt k = z6 at *
          try generalize Int32.toInt y = z7 at *
          omega
        have v_15 : 0 ≤ r_9.1.toInt := by
          clear hmu
          have q_16 := i_nle c_1
          try generalize Int32.toInt r_9.1 = z0 at *
          try generalize Int32.toInt ln = z1 at *
          try generalize Int32.toInt lz = z2 at *
          try generalize Int32.toInt wl = z3 at *
          try generalize Int32.toInt k = z4 at *
          try generalize Int32.toInt y = z5 at *
          omega
        have v_17 : r_9.1.toInt ≤ 6000 := by
          clear hmu
          have q_18 := i_nle c_1
          try generalize Int32.toInt r_9.1 = z0 at *
          try generalize Int32.toInt ln = z1 at *
          try generalize Int32.toInt lz = z2 at *
          try generalize Int32.toInt wl = z3 at *
          try generalize Int32.toInt k = z4 at *
          try generalize Int32.toInt y = z5 at *
          omega
        have v_19 : 0 < ((n : Nat) : Int) ∧ (((k + 1)).toInt < y.toInt → y.toInt - ((k + 1)).toInt < ((n : Nat) : Int)) := by
          have q_20 := i_nle c_1
          have k_21 : (1 : Int32).toInt = 1 := by decide
          have t_22 := ti_add (a := k) (b := 1) (by omega) (by omega)
          try generalize Int32.toInt (k + 1) = z0 at *
          try generalize Int32.toInt r_9.1 = z1 at *
          try generalize Int32.toInt ln = z2 at *
          try generalize Int32.toInt lz = z3 at *
          try generalize Int32.toInt wl = z4 at *
          try generalize Int32.toInt (1 : Int32) = z5 at *
          try generalize Int32.toInt k = z6 at *
          try generalize Int32.toInt y = z7 at *
          omega
        exact ih ((k + 1)) (r_9.1) (r_9.2.1) (r_9.2.2) _ _ ls hR v_11 v_15 v_17 v_19 hP hD hS (lv_sub hl [1, 2, 0] rfl)
  refine lv_aload_n hx hb dX7_goToLine_0 rfl (lv_at hl 0 rfl) ?_
  refine va_get (D := (dC, dI)) (ci := 7) (v := .int wl) (C := RX7) (T := TX7) (N := 4) hx hb hts inc_X7_goToLine_7 hown hG.1 hP 0 rfl rfl 3 (by decide) (hts (.fieldLink RX7 36 "MappingDesk$Writer" "line" "I") (by decide +kernel)) (fun _ h9 => h9) rfl dX7_goToLine_1 ?_
  refine lv_istore_n (lv' := [(2, .int wl), (0, .ref h0), (1, .int y)]) hx hb dX7_goToLine_4 rfl hl (by decide) rfl (fun ls hl => ?_)
  have v_23 : 0 ≤ wl.toInt := by
    try generalize Int32.toInt ln = z0 at *
    try generalize Int32.toInt wl = z1 at *
    try generalize Int32.toInt y = z2 at *
    omega
  have v_24 : 0 ≤ ln.toInt := by
    try generalize Int32.toInt ln = z0 at *
    try generalize Int32.toInt wl = z1 at *
    try generalize Int32.toInt y = z2 at *
    omega
  have v_25 : ln.toInt ≤ 6000 := by
    try generalize Int32.toInt ln = z0 at *
    try generalize Int32.toInt wl = z1 at *
    try generalize Int32.toInt y = z2 at *
    omega
  have v_26 : 0 < ((201 : Nat) : Int) ∧ (wl.toInt < y.toInt → y.toInt - wl.toInt < ((201 : Nat) : Int)) := by
    try generalize Int32.toInt ln = z0 at *
    try generalize Int32.toInt wl = z1 at *
    try generalize Int32.toInt y = z2 at *
    omega
  exact loop_5 201 (wl) (ln) (ov) (ch) _ _ ls hR v_23 v_24 v_25 v_26 hP hD hS (lv_sub hl [1, 2, 0] rfl)

def fX7_writeSegment (wl : Int32) (a0 a1 a2 a3 a4 : Int32) (g0 g1 g2 g3 g4 g5 : Int32) (ch : Nat → Int32) (ln ov : Int32) : Int32 × Int32 × (Nat → Int32) :=
  bnd (fX6_appendNumber ch ln ov (g1 - a0)) fun r_3 =>
  bnd (fX3_tellsSource g0 g1 g2 g3 g4 g5) fun r_4 =>
  if r_4 = 0 then
    bnd (fX3_tellsName g0 g1 g2 g3 g4 g5) fun r_6 =>
    if r_6 = 0 then
      (r_3.1, r_3.2.1, r_3.2.2)
    else
      bnd (fX6_appendNumber r_3.2.2 r_3.1 r_3.2.1 (g5 - a4)) fun r_20 =>
      (r_20.1, r_20.2.1, r_20.2.2)
  else
    bnd (fX6_appendNumber r_3.2.2 r_3.1 r_3.2.1 (g2 - a1)) fun r_31 =>
    bnd (fX6_appendNumber r_31.2.2 r_31.1 r_31.2.1 (g3 - a2)) fun r_38 =>
    bnd (fX6_appendNumber r_38.2.2 r_38.1 r_38.2.1 (g4 - a3)) fun r_45 =>
    bnd (fX3_tellsName g0 g1 g2 g3 g4 g5) fun r_46 =>
    if r_46 = 0 then
      (r_45.1, r_45.2.1, r_45.2.2)
    else
      bnd (fX6_appendNumber r_45.2.2 r_45.1 r_45.2.1 (g5 - a4)) fun r_60 =>
      (r_60.1, r_60.2.1, r_60.2.2)
theorem inc_X7_writeSegment_7 : ∀ w ∈ u_ws RX7 TX7 4, w ∈ wsX7_writeSegment := by decide +kernel
theorem inc_X7_writeSegment_3 : ∀ w ∈ u_ws RX3 TX3 6, w ∈ wsX7_writeSegment := by decide +kernel
theorem inc_X7_writeSegment_0 : ∀ w ∈ u_ws RX0 TX0 5, w ∈ wsX7_writeSegment := by decide +kernel
set_option maxHeartbeats 4000000 in
set_option maxRecDepth 100000 in
theorem c_X7_writeSegment (l : Launch) (dC : Nat → ClassId) (dI : Nat → Nat → Nat) (cB cC cI cJ : ClassId) (ak av sz : Nat) (h0 w0 w1 w2 b0 : Nat) (wl : Int32) (a0 a1 a2 a3 a4 : Int32) (g0 g1 g2 g3 g4 g5 : Int32) (ch : Nat → Int32) (ln ov : Int32) (hl0 : 0 ≤ ln.toInt) (hl1 : ln.toInt ≤ 6000) : Met l yX7_writeSegment wsX7_writeSegment ({ frames := 5, cells := 0, slots := 0, locals := 109 } : Room) (cPs dC dI cB cC cI cJ ak av [.ref h0] sz [(h0, .inr (7, [.ref w0, .ref w1, .ref w2, .int wl])), (w0, .inr (0, [.int a0, .int a1, .int a2, .int a3, .int a4])), (w1, .inr (3, [.int g0, .int g1, .int g2, .int g3, .int g4, .int g5])), (w2, .inr (6, [.ref b0, .int ln, .int ov])), (b0, .inl (cC, 6000, .inl ch))]) (va_Qv (fun _ => (0 ≤ (fX7_writeSegment wl a0 a1 a2 a3 a4 g0 g1 g2 g3 g4 g5 ch ln ov).1.toInt ∧ (fX7_writeSegment wl a0 a1 a2 a3 a4 g0 g1 g2 g3 g4 g5 ch ln ov).1.toInt ≤ 6000)) (cE dC dI (va_A [(h0, .inr (7, [.ref w0, .ref w1, .ref w2, .int wl])), (w0, .inr (0, [.int a0, .int a1, .int a2, .int a3, .int a4])), (w1, .inr (3, [.int g0, .int g1, .int g2, .int g3, .int g4, .int g5])), (w2, .inr (6, [.ref b0, .int ln, .int ov])), (b0, .inl (cC, 6000, .inl ch))] sz) [(h0, .inr (7, [.ref w0, .ref w1, .ref w2, .int wl])), (w0, .inr (0, [.int a0, .int a1, .int a2, .int a3, .int a4])), (w1, .inr (3, [.int g0, .int g1, .int g2, .int g3, .int g4, .int g5])), (w2, .inr (6, [.ref b0, .int (fX7_writeSegment wl a0 a1 a2 a3 a4 g0 g1 g2 g3 g4 g5 ch ln ov).1, .int (fX7_writeSegment wl a0 a1 a2 a3 a4 g0 g1 g2 g3 g4 g5 ch ln ov).2.1])), (b0, .inl (cC, 6000, .inl (fX7_writeSegment wl a0 a1 a2 a3 a4 g0 g1 g2 g3 g4 g5 ch ln ov).2.2))]) (va_A [(h0, .inr (7, [.ref w0, .ref w1, .ref w2, .int wl])), (w0, .inr (0, [.int a0, .int a1, .int a2, .int a3, .int a4])), (w1, .inr (3, [.int g0, .int g1, .int g2, .int g3, .int g4, .int g5])), (w2, .inr (6, [.ref b0, .int ln, .int ov])), (b0, .inl (cC, 6000, .inl ch))] sz)) 0 0 (va_A [(h0, .inr (7, [.ref w0, .ref w1, .ref w2, .int wl])), (w0, .inr (0, [.int a0, .int a1, .int a2, .int a3, .int a4])), (w1, .inr (3, [.int g0, .int g1, .int g2, .int g3, .int g4, .int g5])), (w2, .inr (6, [.ref b0, .int ln, .int ov])), (b0, .inl (cC, 6000, .inl ch))] sz) := by
  refine Met.ofW (cc := cX7_writeSegment) (maxL := 1) (ret := none) (by decide) rfl ?_
  intro p e s m args below meth c s₁ B hml hv
  obtain ⟨rfl, hsz, hP, hG, hD0, hSK, hSR⟩ := hv
  have hx := B.exec
  have hb := B.bytes
  have hr := B.returns
  have hts := atoms_spec (ws := wsX7_writeSegment) B.pre
  have hown : s.vm.findClass RX7 = some m.cls := findClass_of_methodNamed B.named
  have hlocks := B.notSynchronized
  subst hsz
  have hD := hD0.self (sz := s.heap.size)
  generalize hAe : va_A [(h0, .inr (7, [.ref w0, .ref w1, .ref w2, .int wl])), (w0, .inr (0, [.int a0, .int a1, .int a2, .int a3, .int a4])), (w1, .inr (3, [.int g0, .int g1, .int g2, .int g3, .int g4, .int g5])), (w2, .inr (6, [.ref b0, .int ln, .int ov])), (b0, .inl (cC, 6000, .inl ch))] s.heap.size = A at hD hSK ⊢
  have hA : ∀ q : Nat, s.heap.size ≤ q → A q := fun q h => by rw [← hAe]; exact Or.inr h
  obtain ⟨H, hH⟩ : ∃ H : Heap, H = s.heap := ⟨_, rfl⟩
  have hS : va_S A s.heap H [] := by rw [hH]; exact va_S.rf
  rw [← hH] at hP ⊢
  generalize hR : fX7_writeSegment wl a0 a1 a2 a3 a4 g0 g1 g2 g3 g4 g5 ch ln ov = R
  unfold fX7_writeSegment at hR
  have hl := lv_entry ([.ref h0]) (n := 1) (Nat.le_of_ble_eq_true rfl)
  rw [lg_entry_eq]
  generalize (lg_sl ([.ref h0]) ++ List.replicate (1 - (lg_sl ([.ref h0])).length) Slot.unset).toArray = ls at hl ⊢
  have hl : lv_has ls 1 [(0, .ref h0)] := hl
  refine lv_aload_n hx hb dX7_writeSegment_0 rfl (lv_at hl 0 rfl) ?_
  refine va_get (D := (dC, dI)) (ci := 7) (v := .ref w2) (C := RX7) (T := TX7) (N := 4) hx hb hts inc_X7_writeSegment_7 hown hG.1 hP 0 rfl rfl 2 (by decide) (hts (.fieldLink RX7 26 "MappingDesk$Writer" "made" "LMappingDesk$Text;") (by decide +kernel)) (fun _ h9 => h9) rfl dX7_writeSegment_1 ?_
  refine lv_aload_n hx hb dX7_writeSegment_4 rfl (lv_at hl 0 rfl) ?_
  refine va_get (D := (dC, dI)) (ci := 7) (v := .ref w1) (C := RX7) (T := TX7) (N := 4) hx hb hts inc_X7_writeSegment_7 hown hG.1 hP 0 rfl rfl 1 (by decide) (hts (.fieldLink RX7 19 "MappingDesk$Writer" "segment" "LMappingDesk$Segment;") (by decide +kernel)) (fun _ h9 => h9) rfl dX7_writeSegment_5 ?_
  refine va_getN (D := (dC, dI)) (ci := 3) (v := .int g1) (C := RX3) (T := TX3) (N := 6) hx hb hts inc_X7_writeSegment_3 hown hG.1 hP 2 rfl rfl 1 (by decide) (hG.nf (a := RX7) (i := 72) (b := "MappingDesk$Segment") (n := "column") (d := "I") (t := "MappingDesk") (by decide +kernel)) (fun _ h9 => h9) rfl dX7_writeSegment_8 ?_
  refine lv_aload_n hx hb dX7_writeSegment_11 rfl (lv_at hl 0 rfl) ?_
  refine va_get (D := (dC, dI)) (ci := 7) (v := .ref w0) (C := RX7) (T := TX7) (N := 4) hx hb hts inc_X7_writeSegment_7 hown hG.1 hP 0 rfl rfl 0 (by decide) (hts (.fieldLink RX7 10 "MappingDesk$Writer" "ahead" "LMappingDesk$Ahead;") (by decide +kernel)) (fun _ h9 => h9) rfl dX7_writeSegment_12 ?_
  refine va_getN (D := (dC, dI)) (ci := 0) (v := .int a0) (C := RX0) (T := TX0) (N := 5) hx hb hts inc_X7_writeSegment_0 hown hG.1 hP 1 rfl rfl 0 (by decide) (hG.nf (a := RX7) (i := 75) (b := "MappingDesk$Ahead") (n := "column") (d := "I") (t := "MappingDesk") (by decide +kernel)) (fun _ h9 => h9) rfl dX7_writeSegment_15 ?_
  refine lv_isub hx hb dX7_writeSegment_18 ?_
  have p_1 : 0 ≤ ln.toInt := by
    first | exact hl0 | assumption
  have p_2 : ln.toInt ≤ 6000 := by
    first | exact hl1 | assumption
  have hPc := hP.sub (ws' := [(w2, .inr (6, [.ref b0, .int ln, .int ov])), (b0, .inl (cC, 6000, .inl ch))]) [3, 4] rfl
  have hDc := hD.sub (ws' := [(w2, .inr (6, [.ref b0, .int ln, .int ov])), (b0, .inl (cC, 6000, .inl ch))]) [3, 4] (by decide) rfl
  have hFc := va_free (wc := [(w2, .inr (6, [.ref b0, .int ln, .int ov])), (b0, .inl (cC, 6000, .inl ch))]) hD hS hA [3, 4] rfl
  refine va_callv (va_runVN (C := RX6) (As := [.int (g1 - a0)]) (rest := []) ⟨hx, hb, hml, hown, hts⟩ (c_X6_appendNumber l dC dI cB cC cI cJ ak av H.size w2 b0 ch ln ov (g1 - a0) p_1 p_2) ⟨va_cnB 1 hts gX7_writeSegment_X6_appendNumber_n76 rfl rfl rfl (hG.nm (A := #[]) (w := .methodLinkNest RX7 76 yX6_appendNumber "MappingDesk") (by decide +kernel)) (hts (.initialized RX6) (by decide +kernel)) (by decide +kernel) ⟨(Nat.le_of_ble_eq_true rfl), (Nat.le_of_ble_eq_true rfl)⟩, hts (.instanceMethod yX6_appendNumber) (by decide +kernel), hts (.selects RX6 yX6_appendNumber yX6_appendNumber) (by decide +kernel)⟩ ⟨cPs_blind, va_recv hG.1 hPc (ci := 6) (q0 := 0) rfl rfl, cPs_pre hPc hG hDc hSK hS hFc hSR⟩ rfl rfl hl.1 rfl (lv_room (Nat.le_of_ble_eq_true rfl)) dX7_writeSegment_19 ⟨Nat.le_of_ble_eq_true rfl, Nat.le_of_ble_eq_true rfl⟩) hS (fun q _ h => hFc q h) hFc (fun u t H1 locs ht hvm hw hB hz1 hk1 hS => ?_)
  obtain ⟨hP1, hD1⟩ := hB
  rw [ht] at hP1
  generalize hr_3 : fX6_appendNumber ch ln ov (g1 - a0) = r_3 at hP1 hD1 hw
  have er_3_0 := hw
  rw [bnd_eq hr_3] at hR
  obtain ⟨hP, hD⟩ := va_join (wr := [(h0, .inr (7, [.ref w0, .ref w1, .ref w2, .int wl])), (w0, .inr (0, [.int a0, .int a1, .int a2, .int a3, .int a4])), (w1, .inr (3, [.int g0, .int g1, .int g2, .int g3, .int g4, .int g5]))]) (w1 := [(w2, .inr (6, [.ref b0, .int r_3.1, .int r_3.2.1])), (b0, .inl (cC, 6000, .inl r_3.2.2))]) hP hD [3, 4] [0, 1, 2] rfl rfl (by decide) (by decide) hk1 hFc hP1 hD1
  generalize H1 = H at hP hS ⊢
  have hP := hP.sub (ws' := [(h0, .inr (7, [.ref w0, .ref w1, .ref w2, .int wl])), (w0, .inr (0, [.int a0, .int a1, .int a2, .int a3, .int a4])), (w1, .inr (3, [.int g0, .int g1, .int g2, .int g3, .int g4, .int g5])), (w2, .inr (6, [.ref b0, .int r_3.1, .int r_3.2.1])), (b0, .inl (cC, 6000, .inl r_3.2.2))]) [0, 1, 2, 3, 4] rfl
  have hD := hD.sub (ws' := [(h0, .inr (7, [.ref w0, .ref w1, .ref w2, .int wl])), (w0, .inr (0, [.int a0, .int a1, .int a2, .int a3, .int a4])), (w1, .inr (3, [.int g0, .int g1, .int g2, .int g3, .int g4, .int g5])), (w2, .inr (6, [.ref b0, .int r_3.1, .int r_3.2.1])), (b0, .inl (cC, 6000, .inl r_3.2.2))]) [0, 1, 2, 3, 4] (by decide) rfl
  refine lv_aload_n hx hb dX7_writeSegment_22 rfl (lv_at hl 0 rfl) ?_
  refine va_get (D := (dC, dI)) (ci := 7) (v := .ref w1) (C := RX7) (T := TX7) (N := 4) hx hb hts inc_X7_writeSegment_7 hown hG.1 hP 0 rfl rfl 1 (by decide) (hts (.fieldLink RX7 19 "MappingDesk$Writer" "segment" "LMappingDesk$Segment;") (by decide +kernel)) (fun _ h9 => h9) rfl dX7_writeSegment_23 ?_
  have hPc := hP.sub (ws' := [(w1, .inr (3, [.int g0, .int g1, .int g2, .int g3, .int g4, .int g5]))]) [2] rfl
  have hDc := hD.sub (ws' := [(w1, .inr (3, [.int g0, .int g1, .int g2, .int g3, .int g4, .int g5]))]) [2] (by decide) rfl
  refine vp_callSi (va_Run.run (va_runVN (C := RX3) (As := []) (rest := []) ⟨hx, hb, hml, hown, hts⟩ (c_X3_tellsSource l dC dI cB cC cI cJ H.size w1 g0 g1 g2 g3 g4 g5 ) ⟨va_cnB 0 hts gX7_writeSegment_X3_tellsSource_n79 rfl rfl rfl (hG.nm (A := #[]) (w := .methodLinkNest RX7 79 yX3_tellsSource "MappingDesk") (by decide +kernel)) (hts (.initialized RX3) (by decide +kernel)) (by decide +kernel) ⟨(Nat.le_of_ble_eq_true rfl), (Nat.le_of_ble_eq_true rfl)⟩, hts (.instanceMethod yX3_tellsSource) (by decide +kernel), hts (.selects RX3 yX3_tellsSource yX3_tellsSource) (by decide +kernel)⟩ ⟨cP_blind, va_recv hG.1 hPc (ci := 3) (q0 := 0) rfl rfl, cP_pre hPc hG hDc⟩ rfl rfl hl.1 rfl (lv_room (Nat.le_of_ble_eq_true rfl)) dX7_writeSegment_26 ⟨Nat.le_of_ble_eq_true rfl, Nat.le_of_ble_eq_true rfl⟩)) (fun r_4 hr_4 => ?_)
  rw [bnd_eq hr_4.symm] at hR
  refine lv_if_eq (tgt := 98) hx hb dX7_writeSegment_29 (by decide) (fun c_5 => ?_) (fun c_5 => ?_)
  · rw [if_pos c_5] at hR
    refine lv_aload_n hx hb dX7_writeSegment_98 rfl (lv_at hl 0 rfl) ?_
    refine va_get (D := (dC, dI)) (ci := 7) (v := .ref w1) (C := RX7) (T := TX7) (N := 4) hx hb hts inc_X7_writeSegment_7 hown hG.1 hP 0 rfl rfl 1 (by decide) (hts (.fieldLink RX7 19 "MappingDesk$Writer" "segment" "LMappingDesk$Segment;") (by decide +kernel)) (fun _ h9 => h9) rfl dX7_writeSegment_99 ?_
    have hPc := hP.sub (ws' := [(w1, .inr (3, [.int g0, .int g1, .int g2, .int g3, .int g4, .int g5]))]) [2] rfl
    have hDc := hD.sub (ws' := [(w1, .inr (3, [.int g0, .int g1, .int g2, .int g3, .int g4, .int g5]))]) [2] (by decide) rfl
    refine vp_callSi (va_Run.run (va_runVN (C := RX3) (As := []) (rest := []) ⟨hx, hb, hml, hown, hts⟩ (c_X3_tellsName l dC dI cB cC cI cJ H.size w1 g0 g1 g2 g3 g4 g5 ) ⟨va_cnB 0 hts gX7_writeSegment_X3_tellsName_n95 rfl rfl rfl (hG.nm (A := #[]) (w := .methodLinkNest RX7 95 yX3_tellsName "MappingDesk") (by decide +kernel)) (hts (.initialized RX3) (by decide +kernel)) (by decide +kernel) ⟨(Nat.le_of_ble_eq_true rfl), (Nat.le_of_ble_eq_true rfl)⟩, hts (.instanceMethod yX3_tellsName) (by decide +kernel), hts (.selects RX3 yX3_tellsName yX3_tellsName) (by decide +kernel)⟩ ⟨cP_blind, va_recv hG.1 hPc (ci := 3) (q0 := 0) rfl rfl, cP_pre hPc hG hDc⟩ rfl rfl hl.1 rfl (lv_room (Nat.le_of_ble_eq_true rfl)) dX7_writeSegment_102 ⟨Nat.le_of_ble_eq_true rfl, Nat.le_of_ble_eq_true rfl⟩)) (fun r_6 hr_6 => ?_)
    rw [bnd_eq hr_6.symm] at hR
    refine lv_if_eq (tgt := 130) hx hb dX7_writeSegment_105 (by decide) (fun c_7 => ?_) (fun c_7 => ?_)
    · rw [if_pos c_7] at hR
      have e_8 : 0 ≤ (r_3.1 : Int32).toInt ∧ (r_3.1 : Int32).toInt ≤ 6000 := by
        have k_9 : (0 : Int32).toInt = 0 := by decide
        have q_10 := i_eq c_5
        have q_11 := i_eq c_7
        try generalize Int32.toInt r_3.1 = z0 at *
        try generalize Int32.toInt r_4 = z1 at *
        try generalize Int32.toInt r_6 = z2 at *
        try generalize Int32.toInt ln = z3 at *
        try generalize Int32.toInt (0 : Int32) = z4 at *
        omega
      subst hR
      exact W.vret hx hb hr (fun t ht hW => ⟨⟨(), rfl, e_8, by rw [ht]; exact hP, hD⟩, hS.F ht⟩) hS.2.2 dX7_writeSegment_130
    · rw [if_neg c_7] at hR
      refine lv_aload_n hx hb dX7_writeSegment_108 rfl (lv_at hl 0 rfl) ?_
      refine va_get (D := (dC, dI)) (ci := 7) (v := .ref w2) (C := RX7) (T := TX7) (N := 4) hx hb hts inc_X7_writeSegment_7 hown hG.1 hP 0 rfl rfl 2 (by decide) (hts (.fieldLink RX7 26 "MappingDesk$Writer" "made" "LMappingDesk$Text;") (by decide +kernel)) (fun _ h9 => h9) rfl dX7_writeSegment_109 ?_
      refine lv_aload_n hx hb dX7_writeSegment_112 rfl (lv_at hl 0 rfl) ?_
      refine va_get (D := (dC, dI)) (ci := 7) (v := .ref w1) (C := RX7) (T := TX7) (N := 4) hx hb hts inc_X7_writeSegment_7 hown hG.1 hP 0 rfl rfl 1 (by decide) (hts (.fieldLink RX7 19 "MappingDesk$Writer" "segment" "LMappingDesk$Segment;") (by decide +kernel)) (fun _ h9 => h9) rfl dX7_writeSegment_113 ?_
      refine va_getN (D := (dC, dI)) (ci := 3) (v := .int g5) (C := RX3) (T := TX3) (N := 6) hx hb hts inc_X7_writeSegment_3 hown hG.1 hP 2 rfl rfl 5 (by decide) (hG.nf (a := RX7) (i := 98) (b := "MappingDesk$Segment") (n := "name") (d := "I") (t := "MappingDesk") (by decide +kernel)) (fun _ h9 => h9) rfl dX7_writeSegment_116 ?_
      refine lv_aload_n hx hb dX7_writeSegment_119 rfl (lv_at hl 0 rfl) ?_
      refine va_get (D := (dC, dI)) (ci := 7) (v := .ref w0) (C := RX7) (T := TX7) (N := 4) hx hb hts inc_X7_writeSegment_7 hown hG.1 hP 0 rfl rfl 0 (by decide) (hts (.fieldLink RX7 10 "MappingDesk$Writer" "ahead" "LMappingDesk$Ahead;") (by decide +kernel)) (fun _ h9 => h9) rfl dX7_writeSegment_120 ?_
      refine va_getN (D := (dC, dI)) (ci := 0) (v := .int a4) (C := RX0) (T := TX0) (N := 5) hx hb hts inc_X7_writeSegment_0 hown hG.1 hP 1 rfl rfl 4 (by decide) (hG.nf (a := RX7) (i := 101) (b := "MappingDesk$Ahead") (n := "name") (d := "I") (t := "MappingDesk") (by decide +kernel)) (fun _ h9 => h9) rfl dX7_writeSegment_123 ?_
      refine lv_isub hx hb dX7_writeSegment_126 ?_
      have p_12 : 0 ≤ r_3.1.toInt := by
        have k_13 : (0 : Int32).toInt = 0 := by decide
        have q_14 := i_eq c_5
        have q_15 := i_ne c_7
        try generalize Int32.toInt r_3.1 = z0 at *
        try generalize Int32.toInt r_4 = z1 at *
        try generalize Int32.toInt r_6 = z2 at *
        try generalize Int32.toInt ln = z3 at *
        try generalize Int32.toInt (0 : Int32) = z4 at *
        first | omega | exact ⟨by omega, by omega⟩
      have p_16 : r_3.1.toInt ≤ 6000 := by
        have k_17 : (0 : Int32).toInt = 0 := by decide
        have q_18 := i_eq c_5
        have q_19 := i_ne c_7
        try generalize Int32.toInt r_3.1 = z0 at *
        try generalize Int32.toInt r_4 = z1 at *
        try generalize Int32.toInt r_6 = z2 at *
        try generalize Int32.toInt ln = z3 at *
        try generalize Int32.toInt (0 : Int32) = z4 at *
        first | omega | exact ⟨by omega, by omega⟩
      have hPc := hP.sub (ws' := [(w2, .inr (6, [.ref b0, .int r_3.1, .int r_3.2.1])), (b0, .inl (cC, 6000, .inl r_3.2.2))]) [3, 4] rfl
      have hDc := hD.sub (ws' := [(w2, .inr (6, [.ref b0, .int r_3.1, .int r_3.2.1])), (b0, .inl (cC, 6000, .inl r_3.2.2))]) [3, 4] (by decide) rfl
      have hFc := va_free (wc := [(w2, .inr (6, [.ref b0, .int r_3.1, .int r_3.2.1])), (b0, .inl (cC, 6000, .inl r_3.2.2))]) hD hS hA [3, 4] rfl
      refine va_callv (va_runVN (C := RX6) (As := [.int (g5 - a4)]) (rest := []) ⟨hx, hb, hml, hown, hts⟩ (c_X6_appendNumber l dC dI cB cC cI cJ ak av H.size w2 b0 r_3.2.2 r_3.1 r_3.2.1 (g5 - a4) p_12 p_16) ⟨va_cnB 1 hts gX7_writeSegment_X6_appendNumber_n76 rfl rfl rfl (hG.nm (A := #[]) (w := .methodLinkNest RX7 76 yX6_appendNumber "MappingDesk") (by decide +kernel)) (hts (.initialized RX6) (by decide +kernel)) (by decide +kernel) ⟨(Nat.le_of_ble_eq_true rfl), (Nat.le_of_ble_eq_true rfl)⟩, hts (.instanceMethod yX6_appendNumber) (by decide +kernel), hts (.selects RX6 yX6_appendNumber yX6_appendNumber) (by decide +kernel)⟩ ⟨cPs_blind, va_recv hG.1 hPc (ci := 6) (q0 := 0) rfl rfl, cPs_pre hPc hG hDc hSK hS hFc hSR⟩ rfl rfl hl.1 rfl (lv_room (Nat.le_of_ble_eq_true rfl)) dX7_writeSegment_127 ⟨Nat.le_of_ble_eq_true rfl, Nat.le_of_ble_eq_true rfl⟩) hS (fun q _ h => hFc q h) hFc (fun u t H1 locs ht hvm hw hB hz1 hk1 hS => ?_)
      obtain ⟨hP1, hD1⟩ := hB
      rw [ht] at hP1
      generalize hr_20 : fX6_appendNumber r_3.2.2 r_3.1 r_3.2.1 (g5 - a4) = r_20 at hP1 hD1 hw
      have er_20_0 := hw
      rw [bnd_eq hr_20] at hR
      obtain ⟨hP, hD⟩ := va_join (wr := [(h0, .inr (7, [.ref w0, .ref w1, .ref w2, .int wl])), (w0, .inr (0, [.int a0, .int a1, .int a2, .int a3, .int a4])), (w1, .inr (3, [.int g0, .int g1, .int g2, .int g3, .int g4, .int g5]))]) (w1 := [(w2, .inr (6, [.ref b0, .int r_20.1, .int r_20.2.1])), (b0, .inl (cC, 6000, .inl r_20.2.2))]) hP hD [3, 4] [0, 1, 2] rfl rfl (by decide) (by decide) hk1 hFc hP1 hD1
      generalize H1 = H at hP hS ⊢
      have hP := hP.sub (ws' := [(h0, .inr (7, [.ref w0, .ref w1, .ref w2, .int wl])), (w0, .inr (0, [.int a0, .int a1, .int a2, .int a3, .int a4])), (w1, .inr (3, [.int g0, .int g1, .int g2, .int g3, .int g4, .int g5])), (w2, .inr (6, [.ref b0, .int r_20.1, .int r_20.2.1])), (b0, .inl (cC, 6000, .inl r_20.2.2))]) [0, 1, 2, 3, 4] rfl
      have hD := hD.sub (ws' := [(h0, .inr (7, [.ref w0, .ref w1, .ref w2, .int wl])), (w0, .inr (0, [.int a0, .int a1, .int a2, .int a3, .int a4])), (w1, .inr (3, [.int g0, .int g1, .int g2, .int g3, .int g4, .int g5])), (w2, .inr (6, [.ref b0, .int r_20.1, .int r_20.2.1])), (b0, .inl (cC, 6000, .inl r_20.2.2))]) [0, 1, 2, 3, 4] (by decide) rfl
      have e_21 : 0 ≤ (r_20.1 : Int32).toInt ∧ (r_20.1 : Int32).toInt ≤ 6000 := by
        have k_22 : (0 : Int32).toInt = 0 := by decide
        have q_23 := i_eq c_5
        have q_24 := i_ne c_7
        try generalize Int32.toInt r_20.1 = z0 at *
        try generalize Int32.toInt r_3.1 = z1 at *
        try generalize Int32.toInt r_4 = z2 at *
        try generalize Int32.toInt r_6 = z3 at *
        try generalize Int32.toInt ln = z4 at *
        try generalize Int32.toInt (0 : Int32) = z5 at *
        omega
      subst hR
      exact W.vret hx hb hr (fun t ht hW => ⟨⟨(), rfl, e_21, by rw [ht]; exact hP, hD⟩, hS.F ht⟩) hS.2.2 dX7_writeSegment_130
  · rw [if_neg c_5] at hR
    refine lv_aload_n hx hb dX7_writeSegment_32 rfl (lv_at hl 0 rfl) ?_
    refine va_get (D := (dC, dI)) (ci := 7) (v := .ref w2) (C := RX7) (T := TX7) (N := 4) hx hb hts inc_X7_writeSegment_7 hown hG.1 hP 0 rfl rfl 2 (by decide) (hts (.fieldLink RX7 26 "MappingDesk$Writer" "made" "LMappingDesk$Text;") (by decide +kernel)) (fun _ h9 => h9) rfl dX7_writeSegment_33 ?_
    refine lv_aload_n hx hb dX7_writeSegment_36 rfl (lv_at hl 0 rfl) ?_
    refine va_get (D := (dC, dI)) (ci := 7) (v := .ref w1) (C := RX7) (T := TX7) (N := 4) hx hb hts inc_X7_writeSegment_7 hown hG.1 hP 0 rfl rfl 1 (by decide) (hts (.fieldLink RX7 19 "MappingDesk$Writer" "segment" "LMappingDesk$Segment;") (by decide +kernel)) (fun _ h9 => h9) rfl dX7_writeSegment_37 ?_
    refine va_getN (D := (dC, dI)) (ci := 3) (v := .int g2) (C := RX3) (T := TX3) (N := 6) hx hb hts inc_X7_writeSegment_3 hown hG.1 hP 2 rfl rfl 2 (by decide) (hG.nf (a := RX7) (i := 83) (b := "MappingDesk$Segment") (n := "source") (d := "I") (t := "MappingDesk") (by decide +kernel)) (fun _ h9 => h9) rfl dX7_writeSegment_40 ?_
    refine lv_aload_n hx hb dX7_writeSegment_43 rfl (lv_at hl 0 rfl) ?_
    refine va_get (D := (dC, dI)) (ci := 7) (v := .ref w0) (C := RX7) (T := TX7) (N := 4) hx hb hts inc_X7_writeSegment_7 hown hG.1 hP 0 rfl rfl 0 (by decide) (hts (.fieldLink RX7 10 "MappingDesk$Writer" "ahead" "LMappingDesk$Ahead;") (by decide +kernel)) (fun _ h9 => h9) rfl dX7_writeSegment_44 ?_
    refine va_getN (D := (dC, dI)) (ci := 0) (v := .int a1) (C := RX0) (T := TX0) (N := 5) hx hb hts inc_X7_writeSegment_0 hown hG.1 hP 1 rfl rfl 1 (by decide) (hG.nf (a := RX7) (i := 86) (b := "MappingDesk$Ahead") (n := "source") (d := "I") (t := "MappingDesk") (by decide +kernel)) (fun _ h9 => h9) rfl dX7_writeSegment_47 ?_
    refine lv_isub hx hb dX7_writeSegment_50 ?_
    have p_25 : 0 ≤ r_3.1.toInt := by
      have k_26 : (0 : Int32).toInt = 0 := by decide
      have q_27 := i_ne c_5
      try generalize Int32.toInt r_3.1 = z0 at *
      try generalize Int32.toInt r_4 = z1 at *
      try generalize Int32.toInt ln = z2 at *
      try generalize Int32.toInt (0 : Int32) = z3 at *
      first | omega | exact ⟨by omega, by omega⟩
    have p_28 : r_3.1.toInt ≤ 6000 := by
      have k_29 : (0 : Int32).toInt = 0 := by decide
      have q_30 := i_ne c_5
      try generalize Int32.toInt r_3.1 = z0 at *
      try generalize Int32.toInt r_4 = z1 at *
      try generalize Int32.toInt ln = z2 at *
      try generalize Int32.toInt (0 : Int32) = z3 at *
      first | omega | exact ⟨by omega, by omega⟩
    have hPc := hP.sub (ws' := [(w2, .inr (6, [.ref b0, .int r_3.1, .int r_3.2.1])), (b0, .inl (cC, 6000, .inl r_3.2.2))]) [3, 4] rfl
    have hDc := hD.sub (ws' := [(w2, .inr (6, [.ref b0, .int r_3.1, .int r_3.2.1])), (b0, .inl (cC, 6000, .inl r_3.2.2))]) [3, 4] (by decide) rfl
    have hFc := va_free (wc := [(w2, .inr (6, [.ref b0, .int r_3.1, .int r_3.2.1])), (b0, .inl (cC, 6000, .inl r_3.2.2))]) hD hS hA [3, 4] rfl
    refine va_callv (va_runVN (C := RX6) (As := [.int (g2 - a1)]) (rest := []) ⟨hx, hb, hml, hown, hts⟩ (c_X6_appendNumber l dC dI cB cC cI cJ ak av H.size w2 b0 r_3.2.2 r_3.1 r_3.2.1 (g2 - a1) p_25 p_28) ⟨va_cnB 1 hts gX7_writeSegment_X6_appendNumber_n76 rfl rfl rfl (hG.nm (A := #[]) (w := .methodLinkNest RX7 76 yX6_appendNumber "MappingDesk") (by decide +kernel)) (hts (.initialized RX6) (by decide +kernel)) (by decide +kernel) ⟨(Nat.le_of_ble_eq_true rfl), (Nat.le_of_ble_eq_true rfl)⟩, hts (.instanceMethod yX6_appendNumber) (by decide +kernel), hts (.selects RX6 yX6_appendNumber yX6_appendNumber) (by decide +kernel)⟩ ⟨cPs_blind, va_recv hG.1 hPc (ci := 6) (q0 := 0) rfl rfl, cPs_pre hPc hG hDc hSK hS hFc hSR⟩ rfl rfl hl.1 rfl (lv_room (Nat.le_of_ble_eq_true rfl)) dX7_writeSegment_51 ⟨Nat.le_of_ble_eq_true rfl, Nat.le_of_ble_eq_true rfl⟩) hS (fun q _ h => hFc q h) hFc (fun u t H1 locs ht hvm hw hB hz1 hk1 hS => ?_)
    obtain ⟨hP1, hD1⟩ := hB
    rw [ht] at hP1
    generalize hr_31 : fX6_appendNumber r_3.2.2 r_3.1 r_3.2.1 (g2 - a1) = r_31 at hP1 hD1 hw
    have er_31_0 := hw
    rw [bnd_eq hr_31] at hR
    obtain ⟨hP, hD⟩ := va_join (wr := [(h0, .inr (7, [.ref w0, .ref w1, .ref w2, .int wl])), (w0, .inr (0, [.int a0, .int a1, .int a2, .int a3, .int a4])), (w1, .inr (3, [.int g0, .int g1, .int g2, .int g3, .int g4, .int g5]))]) (w1 := [(w2, .inr (6, [.ref b0, .int r_31.1, .int r_31.2.1])), (b0, .inl (cC, 6000, .inl r_31.2.2))]) hP hD [3, 4] [0, 1, 2] rfl rfl (by decide) (by decide) hk1 hFc hP1 hD1
    generalize H1 = H at hP hS ⊢
    have hP := hP.sub (ws' := [(h0, .inr (7, [.ref w0, .ref w1, .ref w2, .int wl])), (w0, .inr (0, [.int a0, .int a1, .int a2, .int a3, .int a4])), (w1, .inr (3, [.int g0, .int g1, .int g2, .int g3, .int g4, .int g5])), (w2, .inr (6, [.ref b0, .int r_31.1, .int r_31.2.1])), (b0, .inl (cC, 6000, .inl r_31.2.2))]) [0, 1, 2, 3, 4] rfl
    have hD := hD.sub (ws' := [(h0, .inr (7, [.ref w0, .ref w1, .ref w2, .int wl])), (w0, .inr (0, [.int a0, .int a1, .int a2, .int a3, .int a4])), (w1, .inr (3, [.int g0, .int g1, .int g2, .int g3, .int g4, .int g5])), (w2, .inr (6, [.ref b0, .int r_31.1, .int r_31.2.1])), (b0, .inl (cC, 6000, .inl r_31.2.2))]) [0, 1, 2, 3, 4] (by decide) rfl
    refine lv_aload_n hx hb dX7_writeSegment_54 rfl (lv_at hl 0 rfl) ?_
    refine va_get (D := (dC, dI)) (ci := 7) (v := .ref w2) (C := RX7) (T := TX7) (N := 4) hx hb hts inc_X7_writeSegment_7 hown hG.1 hP 0 rfl rfl 2 (by decide) (hts (.fieldLink RX7 26 "MappingDesk$Writer" "made" "LMappingDesk$Text;") (by decide +kernel)) (fun _ h9 => h9) rfl dX7_writeSegment_55 ?_
    refine lv_aload_n hx hb dX7_writeSegment_58 rfl (lv_at hl 0 rfl) ?_
    refine va_get (D := (dC, dI)) (ci := 7) (v := .ref w1) (C := RX7) (T := TX7) (N := 4) hx hb hts inc_X7_writeSegment_7 hown hG.1 hP 0 rfl rfl 1 (by decide) (hts (.fieldLink RX7 19 "MappingDesk$Writer" "segment" "LMappingDesk$Segment;") (by decide +kernel)) (fun _ h9 => h9) rfl dX7_writeSegment_59 ?_
    refine va_getN (D := (dC, dI)) (ci := 3) (v := .int g3) (C := RX3) (T := TX3) (N := 6) hx hb hts inc_X7_writeSegment_3 hown hG.1 hP 2 rfl rfl 3 (by decide) (hG.nf (a := RX7) (i := 87) (b := "MappingDesk$Segment") (n := "sourceLine") (d := "I") (t := "MappingDesk") (by decide +kernel)) (fun _ h9 => h9) rfl dX7_writeSegment_62 ?_
    refine lv_aload_n hx hb dX7_writeSegment_65 rfl (lv_at hl 0 rfl) ?_
    refine va_get (D := (dC, dI)) (ci := 7) (v := .ref w0) (C := RX7) (T := TX7) (N := 4) hx hb hts inc_X7_writeSegment_7 hown hG.1 hP 0 rfl rfl 0 (by decide) (hts (.fieldLink RX7 10 "MappingDesk$Writer" "ahead" "LMappingDesk$Ahead;") (by decide +kernel)) (fun _ h9 => h9) rfl dX7_writeSegment_66 ?_
    refine va_getN (D := (dC, dI)) (ci := 0) (v := .int a2) (C := RX0) (T := TX0) (N := 5) hx hb hts inc_X7_writeSegment_0 hown hG.1 hP 1 rfl rfl 2 (by decide) (hG.nf (a := RX7) (i := 90) (b := "MappingDesk$Ahead") (n := "sourceLine") (d := "I") (t := "MappingDesk") (by decide +kernel)) (fun _ h9 => h9) rfl dX7_writeSegment_69 ?_
    refine lv_isub hx hb dX7_writeSegment_72 ?_
    have p_32 : 0 ≤ r_31.1.toInt := by
      have k_33 : (0 : Int32).toInt = 0 := by decide
      have q_34 := i_ne c_5
      try generalize Int32.toInt r_31.1 = z0 at *
      try generalize Int32.toInt r_3.1 = z1 at *
      try generalize Int32.toInt r_4 = z2 at *
      try generalize Int32.toInt ln = z3 at *
      try generalize Int32.toInt (0 : Int32) = z4 at *
      first | omega | exact ⟨by omega, by omega⟩
    have p_35 : r_31.1.toInt ≤ 6000 := by
      have k_36 : (0 : Int32).toInt = 0 := by decide
      have q_37 := i_ne c_5
      try generalize Int32.toInt r_31.1 = z0 at *
      try generalize Int32.toInt r_3.1 = z1 at *
      try generalize Int32.toInt r_4 = z2 at *
      try generalize Int32.toInt ln = z3 at *
      try generalize Int32.toInt (0 : Int32) = z4 at *
      first | omega | exact ⟨by omega, by omega⟩
    have hPc := hP.sub (ws' := [(w2, .inr (6, [.ref b0, .int r_31.1, .int r_31.2.1])), (b0, .inl (cC, 6000, .inl r_31.2.2))]) [3, 4] rfl
    have hDc := hD.sub (ws' := [(w2, .inr (6, [.ref b0, .int r_31.1, .int r_31.2.1])), (b0, .inl (cC, 6000, .inl r_31.2.2))]) [3, 4] (by decide) rfl
    have hFc := va_free (wc := [(w2, .inr (6, [.ref b0, .int r_31.1, .int r_31.2.1])), (b0, .inl (cC, 6000, .inl r_31.2.2))]) hD hS hA [3, 4] rfl
    refine va_callv (va_runVN (C := RX6) (As := [.int (g3 - a2)]) (rest := []) ⟨hx, hb, hml, hown, hts⟩ (c_X6_appendNumber l dC dI cB cC cI cJ ak av H.size w2 b0 r_31.2.2 r_31.1 r_31.2.1 (g3 - a2) p_32 p_35) ⟨va_cnB 1 hts gX7_writeSegment_X6_appendNumber_n76 rfl rfl rfl (hG.nm (A := #[]) (w := .methodLinkNest RX7 76 yX6_appendNumber "MappingDesk") (by decide +kernel)) (hts (.initialized RX6) (by decide +kernel)) (by decide +kernel) ⟨(Nat.le_of_ble_eq_true rfl), (Nat.le_of_ble_eq_true rfl)⟩, hts (.instanceMethod yX6_appendNumber) (by decide +kernel), hts (.selects RX6 yX6_appendNumber yX6_appendNumber) (by decide +kernel)⟩ ⟨cPs_blind, va_recv hG.1 hPc (ci := 6) (q0 := 0) rfl rfl, cPs_pre hPc hG hDc hSK hS hFc hSR⟩ rfl rfl hl.1 rfl (lv_room (Nat.le_of_ble_eq_true rfl)) dX7_writeSegment_73 ⟨Nat.le_of_ble_eq_true rfl, Nat.le_of_ble_eq_true rfl⟩) hS (fun q _ h => hFc q h) hFc (fun u t H1 locs ht hvm hw hB hz1 hk1 hS => ?_)
    obtain ⟨hP1, hD1⟩ := hB
    rw [ht] at hP1
    generalize hr_38 : fX6_appendNumber r_31.2.2 r_31.1 r_31.2.1 (g3 - a2) = r_38 at hP1 hD1 hw
    have er_38_0 := hw
    rw [bnd_eq hr_38] at hR
    obtain ⟨hP, hD⟩ := va_join (wr := [(h0, .inr (7, [.ref w0, .ref w1, .ref w2, .int wl])), (w0, .inr (0, [.int a0, .int a1, .int a2, .int a3, .int a4])), (w1, .inr (3, [.int g0, .int g1, .int g2, .int g3, .int g4, .int g5]))]) (w1 := [(w2, .inr (6, [.ref b0, .int r_38.1, .int r_38.2.1])), (b0, .inl (cC, 6000, .inl r_38.2.2))]) hP hD [3, 4] [0, 1, 2] rfl rfl (by decide) (by decide) hk1 hFc hP1 hD1
    generalize H1 = H at hP hS ⊢
    have hP := hP.sub (ws' := [(h0, .inr (7, [.ref w0, .ref w1, .ref w2, .int wl])), (w0, .inr (0, [.int a0, .int a1, .int a2, .int a3, .int a4])), (w1, .inr (3, [.int g0, .int g1, .int g2, .int g3, .int g4, .int g5])), (w2, .inr (6, [.ref b0, .int r_38.1, .int r_38.2.1])), (b0, .inl (cC, 6000, .inl r_38.2.2))]) [0, 1, 2, 3, 4] rfl
    have hD := hD.sub (ws' := [(h0, .inr (7, [.ref w0, .ref w1, .ref w2, .int wl])), (w0, .inr (0, [.int a0, .int a1, .int a2, .int a3, .int a4])), (w1, .inr (3, [.int g0, .int g1, .int g2, .int g3, .int g4, .int g5])), (w2, .inr (6, [.ref b0, .int r_38.1, .int r_38.2.1])), (b0, .inl (cC, 6000, .inl r_38.2.2))]) [0, 1, 2, 3, 4] (by decide) rfl
    refine lv_aload_n hx hb dX7_writeSegment_76 rfl (lv_at hl 0 rfl) ?_
    refine va_get (D := (dC, dI)) (ci := 7) (v := .ref w2) (C := RX7) (T := TX7) (N := 4) hx hb hts inc_X7_writeSegment_7 hown hG.1 hP 0 rfl rfl 2 (by decide) (hts (.fieldLink RX7 26 "MappingDesk$Writer" "made" "LMappingDesk$Text;") (by decide +kernel)) (fun _ h9 => h9) rfl dX7_writeSegment_77 ?_
    refine lv_aload_n hx hb dX7_writeSegment_80 rfl (lv_at hl 0 rfl) ?_
    refine va_get (D := (dC, dI)) (ci := 7) (v := .ref w1) (C := RX7) (T := TX7) (N := 4) hx hb hts inc_X7_writeSegment_7 hown hG.1 hP 0 rfl rfl 1 (by decide) (hts (.fieldLink RX7 19 "MappingDesk$Writer" "segment" "LMappingDesk$Segment;") (by decide +kernel)) (fun _ h9 => h9) rfl dX7_writeSegment_81 ?_
    refine va_getN (D := (dC, dI)) (ci := 3) (v := .int g4) (C := RX3) (T := TX3) (N := 6) hx hb hts inc_X7_writeSegment_3 hown hG.1 hP 2 rfl rfl 4 (by decide) (hG.nf (a := RX7) (i := 91) (b := "MappingDesk$Segment") (n := "sourceColumn") (d := "I") (t := "MappingDesk") (by decide +kernel)) (fun _ h9 => h9) rfl dX7_writeSegment_84 ?_
    refine lv_aload_n hx hb dX7_writeSegment_87 rfl (lv_at hl 0 rfl) ?_
    refine va_get (D := (dC, dI)) (ci := 7) (v := .ref w0) (C := RX7) (T := TX7) (N := 4) hx hb hts inc_X7_writeSegment_7 hown hG.1 hP 0 rfl rfl 0 (by decide) (hts (.fieldLink RX7 10 "MappingDesk$Writer" "ahead" "LMappingDesk$Ahead;") (by decide +kernel)) (fun _ h9 => h9) rfl dX7_writeSegment_88 ?_
    refine va_getN (D := (dC, dI)) (ci := 0) (v := .int a3) (C := RX0) (T := TX0) (N := 5) hx hb hts inc_X7_writeSegment_0 hown hG.1 hP 1 rfl rfl 3 (by decide) (hG.nf (a := RX7) (i := 94) (b := "MappingDesk$Ahead") (n := "sourceColumn") (d := "I") (t := "MappingDesk") (by decide +kernel)) (fun _ h9 => h9) rfl dX7_writeSegment_91 ?_
    refine lv_isub hx hb dX7_writeSegment_94 ?_
    have p_39 : 0 ≤ r_38.1.toInt := by
      have k_40 : (0 : Int32).toInt = 0 := by decide
      have q_41 := i_ne c_5
      try generalize Int32.toInt r_31.1 = z0 at *
      try generalize Int32.toInt r_38.1 = z1 at *
      try generalize Int32.toInt r_3.1 = z2 at *
      try generalize Int32.toInt r_4 = z3 at *
      try generalize Int32.toInt ln = z4 at *
      try generalize Int32.toInt (0 : Int32) = z5 at *
      first | omega | exact ⟨by omega, by omega⟩
    have p_42 : r_38.1.toInt ≤ 6000 := by
      have k_43 : (0 : Int32).toInt = 0 := by decide
      have q_44 := i_ne c_5
      try generalize Int32.toInt r_31.1 = z0 at *
      try generalize Int32.toInt r_38.1 = z1 at *
      try generalize Int32.toInt r_3.1 = z2 at *
      try generalize Int32.toInt r_4 = z3 at *
      try generalize Int32.toInt ln = z4 at *
      try generalize Int32.toInt (0 : Int32) = z5 at *
      first | omega | exact ⟨by omega, by omega⟩
    have hPc := hP.sub (ws' := [(w2, .inr (6, [.ref b0, .int r_38.1, .int r_38.2.1])), (b0, .inl (cC, 6000, .inl r_38.2.2))]) [3, 4] rfl
    have hDc := hD.sub (ws' := [(w2, .inr (6, [.ref b0, .int r_38.1, .int r_38.2.1])), (b0, .inl (cC, 6000, .inl r_38.2.2))]) [3, 4] (by decide) rfl
    have hFc := va_free (wc := [(w2, .inr (6, [.ref b0, .int r_38.1, .int r_38.2.1])), (b0, .inl (cC, 6000, .inl r_38.2.2))]) hD hS hA [3, 4] rfl
    refine va_callv (va_runVN (C := RX6) (As := [.int (g4 - a3)]) (rest := []) ⟨hx, hb, hml, hown, hts⟩ (c_X6_appendNumber l dC dI cB cC cI cJ ak av H.size w2 b0 r_38.2.2 r_38.1 r_38.2.1 (g4 - a3) p_39 p_42) ⟨va_cnB 1 hts gX7_writeSegment_X6_appendNumber_n76 rfl rfl rfl (hG.nm (A := #[]) (w := .methodLinkNest RX7 76 yX6_appendNumber "MappingDesk") (by decide +kernel)) (hts (.initialized RX6) (by decide +kernel)) (by decide +kernel) ⟨(Nat.le_of_ble_eq_true rfl), (Nat.le_of_ble_eq_true rfl)⟩, hts (.instanceMethod yX6_appendNumber) (by decide +kernel), hts (.selects RX6 yX6_appendNumber yX6_appendNumber) (by decide +kernel)⟩ ⟨cPs_blind, va_recv hG.1 hPc (ci := 6) (q0 := 0) rfl rfl, cPs_pre hPc hG hDc hSK hS hFc hSR⟩ rfl rfl hl.1 rfl (lv_room (Nat.le_of_ble_eq_true rfl)) dX7_writeSegment_95 ⟨Nat.le_of_ble_eq_true rfl, Nat.le_of_ble_eq_true rfl⟩) hS (fun q _ h => hFc q h) hFc (fun u t H1 locs ht hvm hw hB hz1 hk1 hS => ?_)
    obtain ⟨hP1, hD1⟩ := hB
    rw [ht] at hP1
    generalize hr_45 : fX6_appendNumber r_38.2.2 r_38.1 r_38.2.1 (g4 - a3) = r_45 at hP1 hD1 hw
    have er_45_0 := hw
    rw [bnd_eq hr_45] at hR
    obtain ⟨hP, hD⟩ := va_join (wr := [(h0, .inr (7, [.ref w0, .ref w1, .ref w2, .int wl])), (w0, .inr (0, [.int a0, .int a1, .int a2, .int a3, .int a4])), (w1, .inr (3, [.int g0, .int g1, .int g2, .int g3, .int g4, .int g5]))]) (w1 := [(w2, .inr (6, [.ref b0, .int r_45.1, .int r_45.2.1])), (b0, .inl (cC, 6000, .inl r_45.2.2))]) hP hD [3, 4] [0, 1, 2] rfl rfl (by decide) (by decide) hk1 hFc hP1 hD1
    generalize H1 = H at hP hS ⊢
    have hP := hP.sub (ws' := [(h0, .inr (7, [.ref w0, .ref w1, .ref w2, .int wl])), (w0, .inr (0, [.int a0, .int a1, .int a2, .int a3, .int a4])), (w1, .inr (3, [.int g0, .int g1, .int g2, .int g3, .int g4, .int g5])), (w2, .inr (6, [.ref b0, .int r_45.1, .int r_45.2.1])), (b0, .inl (cC, 6000, .inl r_45.2.2))]) [0, 1, 2, 3, 4] rfl
    have hD := hD.sub (ws' := [(h0, .inr (7, [.ref w0, .ref w1, .ref w2, .int wl])), (w0, .inr (0, [.int a0, .int a1, .int a2, .int a3, .int a4])), (w1, .inr (3, [.int g0, .int g1, .int g2, .int g3, .int g4, .int g5])), (w2, .inr (6, [.ref b0, .int r_45.1, .int r_45.2.1])), (b0, .inl (cC, 6000, .inl r_45.2.2))]) [0, 1, 2, 3, 4] (by decide) rfl
    refine lv_aload_n hx hb dX7_writeSegment_98 rfl (lv_at hl 0 rfl) ?_
    refine va_get (D := (dC, dI)) (ci := 7) (v := .ref w1) (C := RX7) (T := TX7) (N := 4) hx hb hts inc_X7_writeSegment_7 hown hG.1 hP 0 rfl rfl 1 (by decide) (hts (.fieldLink RX7 19 "MappingDesk$Writer" "segment" "LMappingDesk$Segment;") (by decide +kernel)) (fun _ h9 => h9) rfl dX7_writeSegment_99 ?_
    have hPc := hP.sub (ws' := [(w1, .inr (3, [.int g0, .int g1, .int g2, .int g3, .int g4, .int g5]))]) [2] rfl
    have hDc := hD.sub (ws' := [(w1, .inr (3, [.int g0, .int g1, .int g2, .int g3, .int g4, .int g5]))]) [2] (by decide) rfl
    refine vp_callSi (va_Run.run (va_runVN (C := RX3) (As := []) (rest := []) ⟨hx, hb, hml, hown, hts⟩ (c_X3_tellsName l dC dI cB cC cI cJ H.size w1 g0 g1 g2 g3 g4 g5 ) ⟨va_cnB 0 hts gX7_writeSegment_X3_tellsName_n95 rfl rfl rfl (hG.nm (A := #[]) (w := .methodLinkNest RX7 95 yX3_tellsName "MappingDesk") (by decide +kernel)) (hts (.initialized RX3) (by decide +kernel)) (by decide +kernel) ⟨(Nat.le_of_ble_eq_true rfl), (Nat.le_of_ble_eq_true rfl)⟩, hts (.instanceMethod yX3_tellsName) (by decide +kernel), hts (.selects RX3 yX3_tellsName yX3_tellsName) (by decide +kernel)⟩ ⟨cP_blind, va_recv hG.1 hPc (ci := 3) (q0 := 0) rfl rfl, cP_pre hPc hG hDc⟩ rfl rfl hl.1 rfl (lv_room (Nat.le_of_ble_eq_true rfl)) dX7_writeSegment_102 ⟨Nat.le_of_ble_eq_true rfl, Nat.le_of_ble_eq_true rfl⟩)) (fun r_46 hr_46 => ?_)
    rw [bnd_eq hr_46.symm] at hR
    refine lv_if_eq (tgt := 130) hx hb dX7_writeSegment_105 (by decide) (fun c_47 => ?_) (fun c_47 => ?_)
    · rw [if_pos c_47] at hR
      have e_48 : 0 ≤ (r_45.1 : Int32).toInt ∧ (r_45.1 : Int32).toInt ≤ 6000 := by
        have k_49 : (0 : Int32).toInt = 0 := by decide
        have q_50 := i_ne c_5
        have q_51 := i_eq c_47
        try generalize Int32.toInt r_31.1 = z0 at *
        try generalize Int32.toInt r_38.1 = z1 at *
        try generalize Int32.toInt r_45.1 = z2 at *
        try generalize Int32.toInt r_3.1 = z3 at *
        try generalize Int32.toInt r_46 = z4 at *
        try generalize Int32.toInt r_4 = z5 at *
        try generalize Int32.toInt ln = z6 at *
        try generalize Int32.toInt (0 : Int32) = z7 at *
        omega
      subst hR
      exact W.vret hx hb hr (fun t ht hW => ⟨⟨(), rfl, e_48, by rw [ht]; exact hP, hD⟩, hS.F ht⟩) hS.2.2 dX7_writeSegment_130
    · rw [if_neg c_47] at hR
      refine lv_aload_n hx hb dX7_writeSegment_108 rfl (lv_at hl 0 rfl) ?_
      refine va_get (D := (dC, dI)) (ci := 7) (v := .ref w2) (C := RX7) (T := TX7) (N := 4) hx hb hts inc_X7_writeSegment_7 hown hG.1 hP 0 rfl rfl 2 (by decide) (hts (.fieldLink RX7 26 "MappingDesk$Writer" "made" "LMappingDesk$Text;") (by decide +kernel)) (fun _ h9 => h9) rfl dX7_writeSegment_109 ?_
      refine lv_aload_n hx hb dX7_writeSegment_112 rfl (lv_at hl 0 rfl) ?_
      refine va_get (D := (dC, dI)) (ci := 7) (v := .ref w1) (C := RX7) (T := TX7) (N := 4) hx hb hts inc_X7_writeSegment_7 hown hG.1 hP 0 rfl rfl 1 (by decide) (hts (.fieldLink RX7 19 "MappingDesk$Writer" "segment" "LMappingDesk$Segment;") (by decide +kernel)) (fun _ h9 => h9) rfl dX7_writeSegment_113 ?_
      refine va_getN (D := (dC, dI)) (ci := 3) (v := .int g5) (C := RX3) (T := TX3) (N := 6) hx hb hts inc_X7_writeSegment_3 hown hG.1 hP 2 rfl rfl 5 (by decide) (hG.nf (a := RX7) (i := 98) (b := "MappingDesk$Segment") (n := "name") (d := "I") (t := "MappingDesk") (by decide +kernel)) (fun _ h9 => h9) rfl dX7_writeSegment_116 ?_
      refine lv_aload_n hx hb dX7_writeSegment_119 rfl (lv_at hl 0 rfl) ?_
      refine va_get (D := (dC, dI)) (ci := 7) (v := .ref w0) (C := RX7) (T := TX7) (N := 4) hx hb hts inc_X7_writeSegment_7 hown hG.1 hP 0 rfl rfl 0 (by decide) (hts (.fieldLink RX7 10 "MappingDesk$Writer" "ahead" "LMappingDesk$Ahead;") (by decide +kernel)) (fun _ h9 => h9) rfl dX7_writeSegment_120 ?_
      refine va_getN (D := (dC, dI)) (ci := 0) (v := .int a4) (C := RX0) (T := TX0) (N := 5) hx hb hts inc_X7_writeSegment_0 hown hG.1 hP 1 rfl rfl 4 (by decide) (hG.nf (a := RX7) (i := 101) (b := "MappingDesk$Ahead") (n := "name") (d := "I") (t := "MappingDesk") (by decide +kernel)) (fun _ h9 => h9) rfl dX7_writeSegment_123 ?_
      refine lv_isub hx hb dX7_writeSegment_126 ?_
      have p_52 : 0 ≤ r_45.1.toInt := by
        have k_53 : (0 : Int32).toInt = 0 := by decide
        have q_54 := i_ne c_5
        have q_55 := i_ne c_47
        try generalize Int32.toInt r_31.1 = z0 at *
        try generalize Int32.toInt r_38.1 = z1 at *
        try generalize Int32.toInt r_45.1 = z2 at *
        try generalize Int32.toInt r_3.1 = z3 at *
        try generalize Int32.toInt r_46 = z4 at *
        try generalize Int32.toInt r_4 = z5 at *
        try generalize Int32.toInt ln = z6 at *
        try generalize Int32.toInt (0 : Int32) = z7 at *
        first | omega | exact ⟨by omega, by omega⟩
      have p_56 : r_45.1.toInt ≤ 6000 := by
        have k_57 : (0 : Int32).toInt = 0 := by decide
        have q_58 := i_ne c_5
        have q_59 := i_ne c_47
        try generalize Int32.toInt r_31.1 = z0 at *
        try generalize Int32.toInt r_38.1 = z1 at *
        try generalize Int32.toInt r_45.1 = z2 at *
        try generalize Int32.toInt r_3.1 = z3 at *
        try generalize Int32.toInt r_46 = z4 at *
        try generalize Int32.toInt r_4 = z5 at *
        try generalize Int32.toInt ln = z6 at *
        try generalize Int32.toInt (0 : Int32) = z7 at *
        first | omega | exact ⟨by omega, by omega⟩
      have hPc := hP.sub (ws' := [(w2, .inr (6, [.ref b0, .int r_45.1, .int r_45.2.1])), (b0, .inl (cC, 6000, .inl r_45.2.2))]) [3, 4] rfl
      have hDc := hD.sub (ws' := [(w2, .inr (6, [.ref b0, .int r_45.1, .int r_45.2.1])), (b0, .inl (cC, 6000, .inl r_45.2.2))]) [3, 4] (by decide) rfl
      have hFc := va_free (wc := [(w2, .inr (6, [.ref b0, .int r_45.1, .int r_45.2.1])), (b0, .inl (cC, 6000, .inl r_45.2.2))]) hD hS hA [3, 4] rfl
      refine va_callv (va_runVN (C := RX6) (As := [.int (g5 - a4)]) (rest := []) ⟨hx, hb, hml, hown, hts⟩ (c_X6_appendNumber l dC dI cB cC cI cJ ak av H.size w2 b0 r_45.2.2 r_45.1 r_45.2.1 (g5 - a4) p_52 p_56) ⟨va_cnB 1 hts gX7_writeSegment_X6_appendNumber_n76 rfl rfl rfl (hG.nm (A := #[]) (w := .methodLinkNest RX7 76 yX6_appendNumber "MappingDesk") (by decide +kernel)) (hts (.initialized RX6) (by decide +kernel)) (by decide +kernel) ⟨(Nat.le_of_ble_eq_true rfl), (Nat.le_of_ble_eq_true rfl)⟩, hts (.instanceMethod yX6_appendNumber) (by decide +kernel), hts (.selects RX6 yX6_appendNumber yX6_appendNumber) (by decide +kernel)⟩ ⟨cPs_blind, va_recv hG.1 hPc (ci := 6) (q0 := 0) rfl rfl, cPs_pre hPc hG hDc hSK hS hFc hSR⟩ rfl rfl hl.1 rfl (lv_room (Nat.le_of_ble_eq_true rfl)) dX7_writeSegment_127 ⟨Nat.le_of_ble_eq_true rfl, Nat.le_of_ble_eq_true rfl⟩) hS (fun q _ h => hFc q h) hFc (fun u t H1 locs ht hvm hw hB hz1 hk1 hS => ?_)
      obtain ⟨hP1, hD1⟩ := hB
      rw [ht] at hP1
      generalize hr_60 : fX6_appendNumber r_45.2.2 r_45.1 r_45.2.1 (g5 - a4) = r_60 at hP1 hD1 hw
      have er_60_0 := hw
      rw [bnd_eq hr_60] at hR
      obtain ⟨hP, hD⟩ := va_join (wr := [(h0, .inr (7, [.ref w0, .ref w1, .ref w2, .int wl])), (w0, .inr (0, [.int a0, .int a1, .int a2, .int a3, .int a4])), (w1, .inr (3, [.int g0, .int g1, .int g2, .int g3, .int g4, .int g5]))]) (w1 := [(w2, .inr (6, [.ref b0, .int r_60.1, .int r_60.2.1])), (b0, .inl (cC, 6000, .inl r_60.2.2))]) hP hD [3, 4] [0, 1, 2] rfl rfl (by decide) (by decide) hk1 hFc hP1 hD1
      generalize H1 = H at hP hS ⊢
      have hP := hP.sub (ws' := [(h0, .inr (7, [.ref w0, .ref w1, .ref w2, .int wl])), (w0, .inr (0, [.int a0, .int a1, .int a2, .int a3, .int a4])), (w1, .inr (3, [.int g0, .int g1, .int g2, .int g3, .int g4, .int g5])), (w2, .inr (6, [.ref b0, .int r_60.1, .int r_60.2.1])), (b0, .inl (cC, 6000, .inl r_60.2.2))]) [0, 1, 2, 3, 4] rfl
      have hD := hD.sub (ws' := [(h0, .inr (7, [.ref w0, .ref w1, .ref w2, .int wl])), (w0, .inr (0, [.int a0, .int a1, .int a2, .int a3, .int a4])), (w1, .inr (3, [.int g0, .int g1, .int g2, .int g3, .int g4, .int g5])), (w2, .inr (6, [.ref b0, .int r_60.1, .int r_60.2.1])), (b0, .inl (cC, 6000, .inl r_60.2.2))]) [0, 1, 2, 3, 4] (by decide) rfl
      have e_61 : 0 ≤ (r_60.1 : Int32).toInt ∧ (r_60.1 : Int32).toInt ≤ 6000 := by
        have k_62 : (0 : Int32).toInt = 0 := by decide
        have q_63 := i_ne c_5
        have q_64 := i_ne c_47
        try generalize Int32.toInt r_31.1 = z0 at *
        try generalize Int32.toInt r_38.1 = z1 at *
        try generalize Int32.toInt r_45.1 = z2 at *
        try generalize Int32.toInt r_60.1 = z3 at *
        try generalize Int32.toInt r_3.1 = z4 at *
        try generalize Int32.toInt r_46 = z5 at *
        try generalize Int32.toInt r_4 = z6 at *
        try generalize Int32.toInt ln = z7 at *
        try generalize Int32.toInt (0 : Int32) = z8 at *
        omega
      subst hR
      exact W.vret hx hb hr (fun t ht hW => ⟨⟨(), rfl, e_61, by rw [ht]; exact hP, hD⟩, hS.F ht⟩) hS.2.2 dX7_writeSegment_130
