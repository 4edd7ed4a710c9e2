theorem cl_lt {x : Int32} {n : Nat} (h0 : 0 ≤ x.toInt) (h1 : x.toInt < n) : x.toNatClampNeg < n := by
  show x.toInt.toNat < n
  omega

def fX9_segmentOf_6 (th dc tl xl fo fa mn ft wl : Int32) (rw : Nat → Int32) (ct : Nat → Int32) (x y z : Int32) : Nat → Int32 → Int32 → Int32
  | 0, _, _ => 0
  | n + 1, hi, k =>
    if (ct x.toNatClampNeg) ≤ k then
      hi
    else
      if (rw ((1800 * x) + (6 * k)).toNatClampNeg) = y then
        if z < (rw (((1800 * x) + (6 * k)) + 1).toNatClampNeg) then
          fX9_segmentOf_6 th dc tl xl fo fa mn ft wl rw ct x y z n hi (k + 1)
        else
          fX9_segmentOf_6 th dc tl xl fo fa mn ft wl rw ct x y z n k (k + 1)
      else
        fX9_segmentOf_6 th dc tl xl fo fa mn ft wl rw ct x y z n hi (k + 1)
def fX9_segmentOf (th dc tl xl fo fa mn ft wl : Int32) (rw : Nat → Int32) (ct : Nat → Int32) (x y z : Int32) : Int32 :=
  fX9_segmentOf_6 th dc tl xl fo fa mn ft wl rw ct x y z 301 (-1) 0
theorem inc_X9_segmentOf_9 : ∀ w ∈ u_ws RX9 TX9 17, w ∈ wsX9_segmentOf := by decide +kernel
set_option maxHeartbeats 4000000 in
set_option maxRecDepth 100000 in
theorem c_X9_segmentOf (l : Launch) (dC : Nat → ClassId) (dI : Nat → Nat → Nat) (cB cC cI cJ : ClassId) (sz : Nat) (h0 a0 a1 a2 a3 a4 a5 a6 a7 : Nat) (th dc tl xl fo fa mn ft wl : Int32) (rw : Nat → Int32) (ct : Nat → Int32) (x y z : Int32) (hx0 : 0 ≤ x.toInt) (hx1 : x.toInt ≤ 1) (hct : ∀ j : Nat, j < 2 → 0 ≤ (ct j).toInt ∧ (ct j).toInt ≤ 300) : Met l yX9_segmentOf wsX9_segmentOf ({ frames := 0, cells := 0, slots := 0, locals := 0 } : Room) (cP dC dI cB cC cI cJ [.ref h0, .int x, .int y, .int z] sz [(h0, .inr (9, [.int th, .ref a0, .ref a1, .ref a2, .int dc, .ref a3, .int tl, .ref a4, .int xl, .int fo, .int fa, .ref a5, .int mn, .ref a6, .int ft, .ref a7, .int wl])), (a0, .inl (cI, 3600, .inl rw)), (a1, .inl (cI, 2, .inl ct))]) (vp_Si (fun r => r = (fX9_segmentOf th dc tl xl fo fa mn ft wl rw ct x y z) ∧ (-1 ≤ (fX9_segmentOf th dc tl xl fo fa mn ft wl rw ct x y z).toInt ∧ (fX9_segmentOf th dc tl xl fo fa mn ft wl rw ct x y z).toInt < 300))) 0 0 (fun _ => False) := by
  refine Met.ofW (cc := cX9_segmentOf) (maxL := 7) (ret := (some .int)) (by decide) rfl ?_
  intro p e s m args below meth c s₁ B hml hv
  obtain ⟨rfl, hsz, hP, hG, hD0⟩ := hv
  have hx := B.exec
  have hb := B.bytes
  have hr := B.returns
  have hts := atoms_spec (ws := wsX9_segmentOf) B.pre
  have hown : s.vm.findClass RX9 = some m.cls := findClass_of_methodNamed B.named
  have hlocks := B.notSynchronized
  subst hsz
  obtain ⟨H, hH⟩ : ∃ H : Heap, H = s.heap := ⟨_, rfl⟩
  rw [← hH] at hP ⊢
  generalize hR : fX9_segmentOf th dc tl xl fo fa mn ft wl rw ct x y z = R
  unfold fX9_segmentOf at hR
  have hl := lv_entry ([.ref h0, .int x, .int y, .int z]) (n := 7) (Nat.le_of_ble_eq_true rfl)
  rw [lg_entry_eq]
  generalize (lg_sl ([.ref h0, .int x, .int y, .int z]) ++ List.replicate (7 - (lg_sl ([.ref h0, .int x, .int y, .int z])).length) Slot.unset).toArray = ls at hl ⊢
  have hl : lv_has ls 7 [(0, .ref h0), (1, .int x), (2, .int y), (3, .int z)] := hl
  have loop_6 : ∀ (n : Nat), ∀ (hi : Int32) (k : Int32) (ls : Array Slot), fX9_segmentOf_6 th dc tl xl fo fa mn ft wl rw ct x y z n hi k = R → (0 ≤ k.toInt) → (k.toInt ≤ (ct x.toNatClampNeg).toInt) → (-1 ≤ hi.toInt) → (hi.toInt < 300) → ((ct x.toNatClampNeg).toInt - k.toInt < ((n : Nat) : Int)) → lv_has ls 7 [(0, .ref h0), (1, .int x), (2, .int y), (3, .int z), (4, .int hi), (5, .int k)] → W p l e (headSpec wsX9_segmentOf ({ frames := 0, cells := 0, slots := 0, locals := 0 } : Room)).room s m ([.ref h0, .int x, .int y, .int z] : List Value).toArray below meth c H [] 0 0 (MQ below (vp_Si (fun r => r = R ∧ (-1 ≤ R.toInt ∧ R.toInt < 300))) ([.ref h0, .int x, .int y, .int z] : List Value).toArray s 0 0 (fun _ => False)) (F0 m 6 ls []) := by
    intro n
    induction n with
    | zero => intro hi k ls hR hk0 hk1 hh0 hh1 hmu; exfalso; omega
    | succ n ih =>
      intro hi k ls hR hk0 hk1 hh0 hh1 hmu hl
      rw [fX9_segmentOf_6] at hR
      refine lv_iload hx hb dX9_segmentOf_6 (lv_at hl 5 rfl) ?_
      refine lv_aload_n hx hb dX9_segmentOf_8 rfl (lv_at hl 0 rfl) ?_
      refine va_get (D := (dC, dI)) (ci := 9) (v := .ref a1) (C := RX9) (T := TX9) (N := 17) hx hb hts inc_X9_segmentOf_9 hown hG.1 hP 0 rfl rfl 2 (by decide) (hts (.fieldLink RX9 17 "MappingDeskModel" "count" "[I") (by decide +kernel)) (fun _ h9 => h9) rfl dX9_segmentOf_9 ?_
      refine lv_iload_n hx hb dX9_segmentOf_12 rfl (lv_at hl 1 rfl) ?_
      have b_1 : vp_in x 2 := by
        try have hq7 := hct x.toNatClampNeg (cl_lt (by omega) (by omega))
        refine vin ?_ ?_
        all_goals (try generalize Int32.toInt (ct x.toNatClampNeg) = z0 at *; try generalize Int32.toInt hi = z1 at *; try generalize Int32.toInt k = z2 at *; try generalize Int32.toInt x = z3 at *; omega)
      refine va_iald hx hb hG.1 hP 2 2 rfl rfl b_1 dX9_segmentOf_13 ?_
      refine lv_icmp_ge (tgt := 64) hx hb dX9_segmentOf_14 (by decide) (fun c_4 => ?_) (fun c_4 => ?_)
      · rw [if_pos c_4] at hR
        refine lv_iload hx hb dX9_segmentOf_64 (lv_at hl 4 rfl) ?_
        have e_5 : -1 ≤ (hi : Int32).toInt ∧ (hi : Int32).toInt < 300 := by
          have q_6 := i_le c_4
          try have hq7 := hct x.toNatClampNeg (cl_lt (by omega) (by omega))
          try generalize Int32.toInt (ct x.toNatClampNeg) = z0 at *
          try generalize Int32.toInt hi = z1 at *
          try generalize Int32.toInt k = z2 at *
          try generalize Int32.toInt x = z3 at *
          omega
        subst hR
        exact W.iret (v := hi) hx hb hr (fun t ht hW => ⟨hi, rfl, ⟨rfl, e_5⟩, ht.trans hH⟩) t_nil dX9_segmentOf_66
      · rw [if_neg c_4] at hR
        refine lv_sipush (v := 1800) hx hb dX9_segmentOf_17 (by decide) ?_
        refine lv_iload_n hx hb dX9_segmentOf_20 rfl (lv_at hl 1 rfl) ?_
        refine lv_imul hx hb dX9_segmentOf_21 ?_
        refine lv_bipush (v := 6) hx hb dX9_segmentOf_22 (by decide) ?_
        refine lv_iload hx hb dX9_segmentOf_24 (lv_at hl 5 rfl) ?_
        refine lv_imul hx hb dX9_segmentOf_26 ?_
        refine lv_iadd hx hb dX9_segmentOf_27 ?_
        refine lv_istore (lv' := [(6, .int ((1800 * x) + (6 * k))), (0, .ref h0), (1, .int x), (2, .int y), (3, .int z), (4, .int hi), (5, .int k)]) hx hb dX9_segmentOf_28 hl (by decide) rfl (fun ls hl => ?_)
        refine lv_aload_n hx hb dX9_segmentOf_30 rfl (lv_at hl 1 rfl) ?_
        refine va_get (D := (dC, dI)) (ci := 9) (v := .ref a0) (C := RX9) (T := TX9) (N := 17) hx hb hts inc_X9_segmentOf_9 hown hG.1 hP 0 rfl rfl 1 (by decide) (hts (.fieldLink RX9 13 "MappingDeskModel" "rows" "[I") (by decide +kernel)) (fun _ h9 => h9) rfl dX9_segmentOf_31 ?_
        refine lv_iload hx hb dX9_segmentOf_34 (lv_at hl 0 rfl) ?_
        have b_7 : vp_in ((1800 * x) + (6 * k)) 3600 := by
          have q_8 := i_nle c_4
          try have hq7 := hct x.toNatClampNeg (cl_lt (by omega) (by omega))
          have k_9 : (1800 : Int32).toInt = 1800 := by decide
          have t_10 : ((1800 * x)).toInt = 1800 * (x).toInt := by
            have z := ti_mul (a := 1800) (b := x) (by rw [show (1800 : Int32).toInt = 1800 from by decide]; omega) (by rw [show (1800 : Int32).toInt = 1800 from by decide]; omega)
            rw [z, show (1800 : Int32).toInt = 1800 from by decide]
          have k_11 : (6 : Int32).toInt = 6 := by decide
          have t_12 : ((6 * k)).toInt = 6 * (k).toInt := by
            have z := ti_mul (a := 6) (b := k) (by rw [show (6 : Int32).toInt = 6 from by decide]; omega) (by rw [show (6 : Int32).toInt = 6 from by decide]; omega)
            rw [z, show (6 : Int32).toInt = 6 from by decide]
          have t_13 := ti_add (a := (1800 * x)) (b := (6 * k)) (by omega) (by omega)
          refine vin ?_ ?_
          all_goals (try generalize Int32.toInt ((1800 * x) + (6 * k)) = z0 at *; try generalize Int32.toInt (ct x.toNatClampNeg) = z1 at *; try generalize Int32.toInt (1800 * x) = z2 at *; try generalize Int32.toInt (6 * k) = z3 at *; try generalize Int32.toInt (1800 : Int32) = z4 at *; try generalize Int32.toInt hi = z5 at *; try generalize Int32.toInt (6 : Int32) = z6 at *; try generalize Int32.toInt k = z7 at *; try generalize Int32.toInt x = z8 at *; omega)
        refine va_iald hx hb hG.1 hP 1 2 rfl rfl b_7 dX9_segmentOf_36 ?_
        refine lv_iload_n hx hb dX9_segmentOf_37 rfl (lv_at hl 3 rfl) ?_
        refine lv_icmp_ne (tgt := 58) hx hb dX9_segmentOf_38 (by decide) (fun c_16 => ?_) (fun c_16 => ?_)
        · rw [if_neg c_16] at hR
          refine lv_iinc (v := (k + 1)) (lv' := [(5, .int (k + 1)), (6, .int ((1800 * x) + (6 * k))), (0, .ref h0), (1, .int x), (2, .int y), (3, .int z), (4, .int hi)]) hx hb dX9_segmentOf_58 hl (k := 6) rfl rfl (by decide) rfl (fun ls hl => ?_)
          refine lv_goto (tgt := 6) hx hb dX9_segmentOf_61 (by decide) ?_
          have v_19 : 0 ≤ ((k + 1)).toInt := by
            have q_20 := i_nle c_4
            have q_21 := i_ne c_16
            try have hq7 := hct x.toNatClampNeg (cl_lt (by omega) (by omega))
            have k_22 : (1 : Int32).toInt = 1 := by decide
            have t_23 := ti_add (a := k) (b := 1) (by omega) (by omega)
            try generalize Int32.toInt (rw ((1800 * x) + (6 * k)).toNatClampNeg) = z0 at *
            try generalize Int32.toInt (ct x.toNatClampNeg) = z1 at *
            try generalize Int32.toInt (k + 1) = z2 at *
            try generalize Int32.toInt hi = z3 at *
            try generalize Int32.toInt (1 : Int32) = z4 at *
            try generalize Int32.toInt k = z5 at *
            try generalize Int32.toInt x = z6 at *
            try generalize Int32.toInt y = z7 at *
            omega
          have v_24 : ((k + 1)).toInt ≤ (ct x.toNatClampNeg).toInt := by
            have q_25 := i_nle c_4
            have q_26 := i_ne c_16
            try have hq7 := hct x.toNatClampNeg (cl_lt (by omega) (by omega))
            have k_27 : (1 : Int32).toInt = 1 := by decide
            have t_28 := ti_add (a := k) (b := 1) (by omega) (by omega)
            try generalize Int32.toInt (rw ((1800 * x) + (6 * k)).toNatClampNeg) = z0 at *
            try generalize Int32.toInt (ct x.toNatClampNeg) = z1 at *
            try generalize Int32.toInt (k + 1) = z2 at *
            try generalize Int32.toInt hi = z3 at *
            try generalize Int32.toInt (1 : Int32) = z4 at *
            try generalize Int32.toInt k = z5 at *
            try generalize Int32.toInt x = z6 at *
            try generalize Int32.toInt y = z7 at *
            omega
          have v_29 : -1 ≤ hi.toInt := by
            have q_30 := i_nle c_4
            have q_31 := i_ne c_16
            try have hq7 := hct x.toNatClampNeg (cl_lt (by omega) (by omega))
            try generalize Int32.toInt (rw ((1800 * x) + (6 * k)).toNatClampNeg) = z0 at *
            try generalize Int32.toInt (ct x.toNatClampNeg) = z1 at *
            try generalize Int32.toInt hi = z2 at *
            try generalize Int32.toInt k = z3 at *
            try generalize Int32.toInt x = z4 at *
            try generalize Int32.toInt y = z5 at *
            omega
          have v_32 : hi.toInt < 300 := by
            have q_33 := i_nle c_4
            have q_34 := i_ne c_16
            try have hq7 := hct x.toNatClampNeg (cl_lt (by omega) (by omega))
            try generalize Int32.toInt (rw ((1800 * x) + (6 * k)).toNatClampNeg) = z0 at *
            try generalize Int32.toInt (ct x.toNatClampNeg) = z1 at *
            try generalize Int32.toInt hi = z2 at *
            try generalize Int32.toInt k = z3 at *
            try generalize Int32.toInt x = z4 at *
            try generalize Int32.toInt y = z5 at *
            omega
          have v_35 : (ct x.toNatClampNeg).toInt - ((k + 1)).toInt < ((n : Nat) : Int) := by
            have q_36 := i_nle c_4
            have q_37 := i_ne c_16
            try have hq7 := hct x.toNatClampNeg (cl_lt (by omega) (by omega))
            have k_38 : (1 : Int32).toInt = 1 := by decide
            have t_39 := ti_add (a := k) (b := 1) (by omega) (by omega)
            try generalize Int32.toInt (rw ((1800 * x) + (6 * k)).toNatClampNeg) = z0 at *
            try generalize Int32.toInt (ct x.toNatClampNeg) = z1 at *
            try generalize Int32.toInt (k + 1) = z2 at *
            try generalize Int32.toInt hi = z3 at *
            try generalize Int32.toInt (1 : Int32) = z4 at *
            try generalize Int32.toInt k = z5 at *
            try generalize Int32.toInt x = z6 at *
            try generalize Int32.toInt y = z7 at *
            omega
          exact ih (hi) ((k + 1))  ls hR v_19 v_24 v_29 v_32 v_35 (lv_sub hl [2, 3, 4, 5, 6, 0] rfl)
        · rw [if_pos c_16] at hR
          refine lv_aload_n hx hb dX9_segmentOf_41 rfl (lv_at hl 1 rfl) ?_
          refine va_get (D := (dC, dI)) (ci := 9) (v := .ref a0) (C := RX9) (T := TX9) (N := 17) hx hb hts inc_X9_segmentOf_9 hown hG.1 hP 0 rfl rfl 1 (by decide) (hts (.fieldLink RX9 13 "MappingDeskModel" "rows" "[I") (by decide +kernel)) (fun _ h9 => h9) rfl dX9_segmentOf_42 ?_
          refine lv_iload hx hb dX9_segmentOf_45 (lv_at hl 0 rfl) ?_
          refine lv_iconst (v := 1) hx hb dX9_segmentOf_47 (by decide) ?_
          refine lv_iadd hx hb dX9_segmentOf_48 ?_
          have b_40 : vp_in (((1800 * x) + (6 * k)) + 1) 3600 := by
            have q_41 := i_nle c_4
            have q_42 := i_eq c_16
            try have hq7 := hct x.toNatClampNeg (cl_lt (by omega) (by omega))
            have k_43 : (1800 : Int32).toInt = 1800 := by decide
            have t_44 : ((1800 * x)).toInt = 1800 * (x).toInt := by
              have z := ti_mul (a := 1800) (b := x) (by rw [show (1800 : Int32).toInt = 1800 from by decide]; omega) (by rw [show (1800 : Int32).toInt = 1800 from by decide]; omega)
              rw [z, show (1800 : Int32).toInt = 1800 from by decide]
            have k_45 : (6 : Int32).toInt = 6 := by decide
            have t_46 : ((6 * k)).toInt = 6 * (k).toInt := by
              have z := ti_mul (a := 6) (b := k) (by rw [show (6 : Int32).toInt = 6 from by decide]; omega) (by rw [show (6 : Int32).toInt = 6 from by decide]; omega)
              rw [z, show (6 : Int32).toInt = 6 from by decide]
            have t_47 := ti_add (a := (1800 * x)) (b := (6 * k)) (by omega) (by omega)
            have k_48 : (1 : Int32).toInt = 1 := by decide
            have t_49 := ti_add (a := ((1800 * x) + (6 * k))) (b := 1) (by omega) (by omega)
            refine vin ?_ ?_
            all_goals (try generalize Int32.toInt (rw ((1800 * x) + (6 * k)).toNatClampNeg) = z0 at *; try generalize Int32.toInt (((1800 * x) + (6 * k)) + 1) = z1 at *; try generalize Int32.toInt ((1800 * x) + (6 * k)) = z2 at *; try generalize Int32.toInt (ct x.toNatClampNeg) = z3 at *; try generalize Int32.toInt (1800 * x) = z4 at *; try generalize Int32.toInt (6 * k) = z5 at *; try generalize Int32.toInt (1800 : Int32) = z6 at *; try generalize Int32.toInt hi = z7 at *; try generalize Int32.toInt (1 : Int32) = z8 at *; try generalize Int32.toInt (6 : Int32) = z9 at *; try generalize Int32.toInt k = z10 at *; try generalize Int32.toInt x = z11 at *; try generalize Int32.toInt y = z12 at *; omega)
          refine va_iald hx hb hG.1 hP 1 2 rfl rfl b_40 dX9_segmentOf_49 ?_
          refine lv_iload_n hx hb dX9_segmentOf_50 rfl (lv_at hl 4 rfl) ?_
          refine lv_icmp_gt (tgt := 58) hx hb dX9_segmentOf_51 (by decide) (fun c_52 => ?_) (fun c_52 => ?_)
          · rw [if_pos c_52] at hR
            refine lv_iinc (v := (k + 1)) (lv' := [(5, .int (k + 1)), (6, .int ((1800 * x) + (6 * k))), (0, .ref h0), (1, .int x), (2, .int y), (3, .int z), (4, .int hi)]) hx hb dX9_segmentOf_58 hl (k := 6) rfl rfl (by decide) rfl (fun ls hl => ?_)
            refine lv_goto (tgt := 6) hx hb dX9_segmentOf_61 (by decide) ?_
            have v_56 : 0 ≤ ((k + 1)).toInt := by
              have q_57 := i_nle c_4
              have q_58 := i_eq c_16
              have q_59 := i_lt c_52
              try have hq7 := hct x.toNatClampNeg (cl_lt (by omega) (by omega))
              have k_60 : (1 : Int32).toInt = 1 := by decide
              have t_61 := ti_add (a := k) (b := 1) (by omega) (by omega)
              try generalize Int32.toInt (rw (((1800 * x) + (6 * k)) + 1).toNatClampNeg) = z0 at *
              try generalize Int32.toInt (rw ((1800 * x) + (6 * k)).toNatClampNeg) = z1 at *
              try generalize Int32.toInt (ct x.toNatClampNeg) = z2 at *
              try generalize Int32.toInt (k + 1) = z3 at *
              try generalize Int32.toInt hi = z4 at *
              try generalize Int32.toInt (1 : Int32) = z5 at *
              try generalize Int32.toInt k = z6 at *
              try generalize Int32.toInt x = z7 at *
              try generalize Int32.toInt y = z8 at *
              try generalize Int32.toInt z = z9 at *
              omega
            have v_62 : ((k + 1)).toInt ≤ (ct x.toNatClampNeg).toInt := by
              have q_63 := i_nle c_4
              have q_64 := i_eq c_16
              have q_65 := i_lt c_52
              try have hq7 := hct x.toNatClampNeg (cl_lt (by omega) (by omega))
              have k_66 : (1 : Int32).toInt = 1 := by decide
              have t_67 := ti_add (a := k) (b := 1) (by omega) (by omega)
              try generalize Int32.toInt (rw (((1800 * x) + (6 * k)) + 1).toNatClampNeg) = z0 at *
              try generalize Int32.toInt (rw ((1800 * x) + (6 * k)).toNatClampNeg) = z1 at *
              try generalize Int32.toInt (ct x.toNatClampNeg) = z2 at *
              try generalize Int32.toInt (k + 1) = z3 at *
              try generalize Int32.toInt hi = z4 at *
              try generalize Int32.toInt (1 : Int32) = z5 at *
              try generalize Int32.toInt k = z6 at *
              try generalize Int32.toInt x = z7 at *
              try generalize Int32.toInt y = z8 at *
              try generalize Int32.toInt z = z9 at *
              omega
            have v_68 : -1 ≤ hi.toInt := by
              have q_69 := i_nle c_4
              have q_70 := i_eq c_16
              have q_71 := i_lt c_52
              try have hq7 := hct x.toNatClampNeg (cl_lt (by omega) (by omega))
              try generalize Int32.toInt (rw (((1800 * x) + (6 * k)) + 1).toNatClampNeg) = z0 at *
              try generalize Int32.toInt (rw ((1800 * x) + (6 * k)).toNatClampNeg) = z1 at *
              try generalize Int32.toInt (ct x.toNatClampNeg) = z2 at *
              try generalize Int32.toInt hi = z3 at *
              try generalize Int32.toInt k = z4 at *
              try generalize Int32.toInt x = z5 at *
              try generalize Int32.toInt y = z6 at *
              try generalize Int32.toInt z = z7 at *
              omega
            have v_72 : hi.toInt < 300 := by
              have q_73 := i_nle c_4
              have q_74 := i_eq c_16
              have q_75 := i_lt c_52
              try have hq7 := hct x.toNatClampNeg (cl_lt (by omega) (by omega))
              try generalize Int32.toInt (rw (((1800 * x) + (6 * k)) + 1).toNatClampNeg) = z0 at *
              try generalize Int32.toInt (rw ((1800 * x) + (6 * k)).toNatClampNeg) = z1 at *
              try generalize Int32.toInt (ct x.toNatClampNeg) = z2 at *
              try generalize Int32.toInt hi = z3 at *
              try generalize Int32.toInt k = z4 at *
              try generalize Int32.toInt x = z5 at *
              try generalize Int32.toInt y = z6 at *
              try generalize Int32.toInt z = z7 at *
              omega
            have v_76 : (ct x.toNatClampNeg).toInt - ((k + 1)).toInt < ((n : Nat) : Int) := by
              have q_77 := i_nle c_4
              have q_78 := i_eq c_16
              have q_79 := i_lt c_52
              try have hq7 := hct x.toNatClampNeg (cl_lt (by omega) (by omega))
              have k_80 : (1 : Int32).toInt = 1 := by decide
              have t_81 := ti_add (a := k) (b := 1) (by omega) (by omega)
              try generalize Int32.toInt (rw (((1800 * x) + (6 * k)) + 1).toNatClampNeg) = z0 at *
              try generalize Int32.toInt (rw ((1800 * x) + (6 * k)).toNatClampNeg) = z1 at *
              try generalize Int32.toInt (ct x.toNatClampNeg) = z2 at *
              try generalize Int32.toInt (k + 1) = z3 at *
              try generalize Int32.toInt hi = z4 at *
              try generalize Int32.toInt (1 : Int32) = z5 at *
              try generalize Int32.toInt k = z6 at *
              try generalize Int32.toInt x = z7 at *
              try generalize Int32.toInt y = z8 at *
              try generalize Int32.toInt z = z9 at *
              omega
            exact ih (hi) ((k + 1))  ls hR v_56 v_62 v_68 v_72 v_76 (lv_sub hl [2, 3, 4, 5, 6, 0] rfl)
          · rw [if_neg c_52] at hR
            refine lv_iload hx hb dX9_segmentOf_54 (lv_at hl 6 rfl) ?_
            refine lv_istore (lv' := [(4, .int k), (6, .int ((1800 * x) + (6 * k))), (0, .ref h0), (1, .int x), (2, .int y), (3, .int z), (5, .int k)]) hx hb dX9_segmentOf_56 hl (by decide) rfl (fun ls hl => ?_)
            refine lv_iinc (v := (k + 1)) (lv' := [(5, .int (k + 1)), (4, .int k), (6, .int ((1800 * x) + (6 * k))), (0, .ref h0), (1, .int x), (2, .int y), (3, .int z)]) hx hb dX9_segmentOf_58 hl (k := 6) rfl rfl (by decide) rfl (fun ls hl => ?_)
            refine lv_goto (tgt := 6) hx hb dX9_segmentOf_61 (by decide) ?_
            have v_85 : 0 ≤ ((k + 1)).toInt := by
              have q_86 := i_nle c_4
              have q_87 := i_eq c_16
              have q_88 := i_nlt c_52
              try have hq7 := hct x.toNatClampNeg (cl_lt (by omega) (by omega))
              have k_89 : (1 : Int32).toInt = 1 := by decide
              have t_90 := ti_add (a := k) (b := 1) (by omega) (by omega)
              try generalize Int32.toInt (rw (((1800 * x) + (6 * k)) + 1).toNatClampNeg) = z0 at *
              try generalize Int32.toInt (rw ((1800 * x) + (6 * k)).toNatClampNeg) = z1 at *
              try generalize Int32.toInt (ct x.toNatClampNeg) = z2 at *
              try generalize Int32.toInt (k + 1) = z3 at *
              try generalize Int32.toInt hi = z4 at *
              try generalize Int32.toInt (1 : Int32) = z5 at *
              try generalize Int32.toInt k = z6 at *
              try generalize Int32.toInt x = z7 at *
              try generalize Int32.toInt y = z8 at *
              try generalize Int32.toInt z = z9 at *
              omega
            have v_91 : ((k + 1)).toInt ≤ (ct x.toNatClampNeg).toInt := by
              have q_92 := i_nle c_4
              have q_93 := i_eq c_16
              have q_94 := i_nlt c_52
              try have hq7 := hct x.toNatClampNeg (cl_lt (by omega) (by omega))
              have k_95 : (1 : Int32).toInt = 1 := by decide
              have t_96 := ti_add (a := k) (b := 1) (by omega) (by omega)
              try generalize Int32.toInt (rw (((1800 * x) + (6 * k)) + 1).toNatClampNeg) = z0 at *
              try generalize Int32.toInt (rw ((1800 * x) + (6 * k)).toNatClampNeg) = z1 at *
              try generalize Int32.toInt (ct x.toNatClampNeg) = z2 at *
              try generalize Int32.toInt (k + 1) = z3 at *
              try generalize Int32.toInt hi = z4 at *
              try generalize Int32.toInt (1 : Int32) = z5 at *
              try generalize Int32.toInt k = z6 at *
              try generalize Int32.toInt x = z7 at *
              try generalize Int32.toInt y = z8 at *
              try generalize Int32.toInt z = z9 at *
              omega
            have v_97 : -1 ≤ k.toInt := by
              have q_98 := i_nle c_4
              have q_99 := i_eq c_16
              have q_100 := i_nlt c_52
              try have hq7 := hct x.toNatClampNeg (cl_lt (by omega) (by omega))
              try generalize Int32.toInt (rw (((1800 * x) + (6 * k)) + 1).toNatClampNeg) = z0 at *
              try generalize Int32.toInt (rw ((1800 * x) + (6 * k)).toNatClampNeg) = z1 at *
              try generalize Int32.toInt (ct x.toNatClampNeg) = z2 at *
              try generalize Int32.toInt hi = z3 at *
              try generalize Int32.toInt k = z4 at *
              try generalize Int32.toInt x = z5 at *
              try generalize Int32.toInt y = z6 at *
              try generalize Int32.toInt z = z7 at *
              omega
            have v_101 : k.toInt < 300 := by
              have q_102 := i_nle c_4
              have q_103 := i_eq c_16
              have q_104 := i_nlt c_52
              try have hq7 := hct x.toNatClampNeg (cl_lt (by omega) (by omega))
              try generalize Int32.toInt (rw (((1800 * x) + (6 * k)) + 1).toNatClampNeg) = z0 at *
              try generalize Int32.toInt (rw ((1800 * x) + (6 * k)).toNatClampNeg) = z1 at *
              try generalize Int32.toInt (ct x.toNatClampNeg) = z2 at *
              try generalize Int32.toInt hi = z3 at *
              try generalize Int32.toInt k = z4 at *
              try generalize Int32.toInt x = z5 at *
              try generalize Int32.toInt y = z6 at *
              try generalize Int32.toInt z = z7 at *
              omega
            have v_105 : (ct x.toNatClampNeg).toInt - ((k + 1)).toInt < ((n : Nat) : Int) := by
              have q_106 := i_nle c_4
              have q_107 := i_eq c_16
              have q_108 := i_nlt c_52
              try have hq7 := hct x.toNatClampNeg (cl_lt (by omega) (by omega))
              have k_109 : (1 : Int32).toInt = 1 := by decide
              have t_110 := ti_add (a := k) (b := 1) (by omega) (by omega)
              try generalize Int32.toInt (rw (((1800 * x) + (6 * k)) + 1).toNatClampNeg) = z0 at *
              try generalize Int32.toInt (rw ((1800 * x) + (6 * k)).toNatClampNeg) = z1 at *
              try generalize Int32.toInt (ct x.toNatClampNeg) = z2 at *
              try generalize Int32.toInt (k + 1) = z3 at *
              try generalize Int32.toInt hi = z4 at *
              try generalize Int32.toInt (1 : Int32) = z5 at *
              try generalize Int32.toInt k = z6 at *
              try generalize Int32.toInt x = z7 at *
              try generalize Int32.toInt y = z8 at *
              try generalize Int32.toInt z = z9 at *
              omega
            exact ih (k) ((k + 1))  ls hR v_85 v_91 v_97 v_101 v_105 (lv_sub hl [3, 4, 5, 6, 1, 0] rfl)
  refine lv_iconst (v := (-1)) hx hb dX9_segmentOf_0 (by decide) ?_
  refine lv_istore (lv' := [(4, .int (-1)), (0, .ref h0), (1, .int x), (2, .int y), (3, .int z)]) hx hb dX9_segmentOf_1 hl (by decide) rfl (fun ls hl => ?_)
  refine lv_iconst (v := 0) hx hb dX9_segmentOf_3 (by decide) ?_
  refine lv_istore (lv' := [(5, .int 0), (4, .int (-1)), (0, .ref h0), (1, .int x), (2, .int y), (3, .int z)]) hx hb dX9_segmentOf_4 hl (by decide) rfl (fun ls hl => ?_)
  have v_111 : 0 ≤ (0 : Int32).toInt := by
    try have hq7 := hct x.toNatClampNeg (cl_lt (by omega) (by omega))
    have k_112 : (0 : Int32).toInt = 0 := by decide
    try generalize Int32.toInt (ct x.toNatClampNeg) = z0 at *
    try generalize Int32.toInt (0 : Int32) = z1 at *
    try generalize Int32.toInt x = z2 at *
    omega
  have v_113 : (0 : Int32).toInt ≤ (ct x.toNatClampNeg).toInt := by
    try have hq7 := hct x.toNatClampNeg (cl_lt (by omega) (by omega))
    have k_114 : (0 : Int32).toInt = 0 := by decide
    try generalize Int32.toInt (ct x.toNatClampNeg) = z0 at *
    try generalize Int32.toInt (0 : Int32) = z1 at *
    try generalize Int32.toInt x = z2 at *
    omega
  have v_115 : -1 ≤ ((-1) : Int32).toInt := by
    try have hq7 := hct x.toNatClampNeg (cl_lt (by omega) (by omega))
    have k_116 : ((-1) : Int32).toInt = -1 := by decide
    try generalize Int32.toInt (ct x.toNatClampNeg) = z0 at *
    try generalize Int32.toInt ((-1) : Int32) = z1 at *
    try generalize Int32.toInt x = z2 at *
    omega
  have v_117 : ((-1) : Int32).toInt < 300 := by
    try have hq7 := hct x.toNatClampNeg (cl_lt (by omega) (by omega))
    have k_118 : ((-1) : Int32).toInt = -1 := by decide
    try generalize Int32.toInt (ct x.toNatClampNeg) = z0 at *
    try generalize Int32.toInt ((-1) : Int32) = z1 at *
    try generalize Int32.toInt x = z2 at *
    omega
  have v_119 : (ct x.toNatClampNeg).toInt - (0 : Int32).toInt < ((301 : Nat) : Int) := by
    try have hq7 := hct x.toNatClampNeg (cl_lt (by omega) (by omega))
    have k_120 : (0 : Int32).toInt = 0 := by decide
    try generalize Int32.toInt (ct x.toNatClampNeg) = z0 at *
    try generalize Int32.toInt (0 : Int32) = z1 at *
    try generalize Int32.toInt x = z2 at *
    omega
  exact loop_6 301 ((-1)) (0)  ls hR v_111 v_113 v_115 v_117 v_119 (lv_sub hl [2, 3, 4, 5, 1, 0] rfl)

def fX9_ask (th dc tl xl fo fa mn ft wl : Int32) (rw : Nat → Int32) (ct : Nat → Int32) (x y z w : Int32) : Int32 × Int32 :=
  if x < 0 then
    ((-1), 0)
  else
    if 1 < x then
      ((-1), 0)
    else
      if w < 0 then
        ((-1), 0)
      else
        if w ≤ 4 then
          bnd (fX9_segmentOf 0 dc tl xl fo fa mn ft wl rw ct x y z) fun r_22 =>
          if 0 ≤ r_22 then
            if 0 ≤ (rw (((1800 * x) + (6 * r_22)) + 2).toNatClampNeg) then
              if w = 4 then
                (r_22, 0)
              else
                ((rw ((((1800 * x) + (6 * r_22)) + 2) + w).toNatClampNeg), 0)
            else
              ((-1), 0)
          else
            ((-1), 0)
        else
          ((-1), 0)
theorem inc_X9_ask_9 : ∀ w ∈ u_ws RX9 TX9 17, w ∈ wsX9_ask := by decide +kernel
set_option maxHeartbeats 4000000 in
set_option maxRecDepth 100000 in
theorem c_X9_ask (l : Launch) (dC : Nat → ClassId) (dI : Nat → Nat → Nat) (cB cC cI cJ : ClassId) (sz : Nat) (h0 a0 a1 a2 a3 a4 a5 a6 a7 : Nat) (th dc tl xl fo fa mn ft wl : Int32) (rw : Nat → Int32) (ct : Nat → Int32) (x y z w : Int32) (hct : ∀ j : Nat, j < 2 → 0 ≤ (ct j).toInt ∧ (ct j).toInt ≤ 300) : Met l yX9_ask wsX9_ask ({ frames := 1, cells := 0, slots := 0, locals := 26 } : Room) (cP dC dI cB cC cI cJ [.ref h0, .int x, .int y, .int z, .int w] sz [(h0, .inr (9, [.int th, .ref a0, .ref a1, .ref a2, .int dc, .ref a3, .int tl, .ref a4, .int xl, .int fo, .int fa, .ref a5, .int mn, .ref a6, .int ft, .ref a7, .int wl])), (a0, .inl (cI, 3600, .inl rw)), (a1, .inl (cI, 2, .inl ct))]) (va_Qi (fun r _ => r = (fX9_ask th dc tl xl fo fa mn ft wl rw ct x y z w).1) (cE dC dI (va_A [(h0, .inr (9, [.int th, .ref a0, .ref a1, .ref a2, .int dc, .ref a3, .int tl, .ref a4, .int xl, .int fo, .int fa, .ref a5, .int mn, .ref a6, .int ft, .ref a7, .int wl])), (a0, .inl (cI, 3600, .inl rw)), (a1, .inl (cI, 2, .inl ct))] sz) [(h0, .inr (9, [.int (fX9_ask th dc tl xl fo fa mn ft wl rw ct x y z w).2, .ref a0, .ref a1, .ref a2, .int dc, .ref a3, .int tl, .ref a4, .int xl, .int fo, .int fa, .ref a5, .int mn, .ref a6, .int ft, .ref a7, .int wl])), (a0, .inl (cI, 3600, .inl rw)), (a1, .inl (cI, 2, .inl ct))]) (va_A [(h0, .inr (9, [.int th, .ref a0, .ref a1, .ref a2, .int dc, .ref a3, .int tl, .ref a4, .int xl, .int fo, .int fa, .ref a5, .int mn, .ref a6, .int ft, .ref a7, .int wl])), (a0, .inl (cI, 3600, .inl rw)), (a1, .inl (cI, 2, .inl ct))] sz)) 0 0 (va_A [(h0, .inr (9, [.int th, .ref a0, .ref a1, .ref a2, .int dc, .ref a3, .int tl, .ref a4, .int xl, .int fo, .int fa, .ref a5, .int mn, .ref a6, .int ft, .ref a7, .int wl])), (a0, .inl (cI, 3600, .inl rw)), (a1, .inl (cI, 2, .inl ct))] sz) := by
  refine Met.ofW (cc := cX9_ask) (maxL := 7) (ret := (some .int)) (by decide) rfl ?_
  intro p e s m args below meth c s₁ B hml hv
  obtain ⟨rfl, hsz, hP, hG, hD0⟩ := hv
  have hx := B.exec
  have hb := B.bytes
  have hr := B.returns
  have hts := atoms_spec (ws := wsX9_ask) B.pre
  have hown : s.vm.findClass RX9 = some m.cls := findClass_of_methodNamed B.named
  have hlocks := B.notSynchronized
  subst hsz
  have hD := hD0.self (sz := s.heap.size)
  generalize hAe : va_A [(h0, .inr (9, [.int th, .ref a0, .ref a1, .ref a2, .int dc, .ref a3, .int tl, .ref a4, .int xl, .int fo, .int fa, .ref a5, .int mn, .ref a6, .int ft, .ref a7, .int wl])), (a0, .inl (cI, 3600, .inl rw)), (a1, .inl (cI, 2, .inl ct))] s.heap.size = A at hD ⊢
  have hA : ∀ q : Nat, s.heap.size ≤ q → A q := fun q h => by rw [← hAe]; exact Or.inr h
  obtain ⟨H, hH⟩ : ∃ H : Heap, H = s.heap := ⟨_, rfl⟩
  have hS : va_S A s.heap H [] := by rw [hH]; exact va_S.rf
  rw [← hH] at hP ⊢
  generalize hR : fX9_ask th dc tl xl fo fa mn ft wl rw ct x y z w = R
  unfold fX9_ask at hR
  have hl := lv_entry ([.ref h0, .int x, .int y, .int z, .int w]) (n := 7) (Nat.le_of_ble_eq_true rfl)
  rw [lg_entry_eq]
  generalize (lg_sl ([.ref h0, .int x, .int y, .int z, .int w]) ++ List.replicate (7 - (lg_sl ([.ref h0, .int x, .int y, .int z, .int w])).length) Slot.unset).toArray = ls at hl ⊢
  have hl : lv_has ls 7 [(0, .ref h0), (1, .int x), (2, .int y), (3, .int z), (4, .int w)] := hl
  refine lv_aload_n hx hb dX9_ask_0 rfl (lv_at hl 0 rfl) ?_
  refine lv_iconst (v := 0) hx hb dX9_ask_1 (by decide) ?_
  refine va_put (D := (dC, dI)) (ci := 9) (v := .int 0) (ty := .int) (C := RX9) (T := TX9) (N := 17) hx hb hts inc_X9_ask_9 tyX9 tyX9_ok nmX9 hown hG.1 hP hD hS 0 rfl rfl 0 (by decide) (hts (.fieldLink RX9 7 "MappingDeskModel" "thrownCode" "I") (by decide +kernel)) (fun _ h9 => h9) rfl (by decide +kernel) rfl rfl (Nat.le_of_ble_eq_true rfl) dX9_ask_2 (fun H locs hP hD hS => ?_)
  have hP : va_P (dC, dI) vwCl [(h0, .inr (9, [.int 0, .ref a0, .ref a1, .ref a2, .int dc, .ref a3, .int tl, .ref a4, .int xl, .int fo, .int fa, .ref a5, .int mn, .ref a6, .int ft, .ref a7, .int wl])), (a0, .inl (cI, 3600, .inl rw)), (a1, .inl (cI, 2, .inl ct))] H := hP
  have hD : va_D A [(h0, .inr (9, [.int 0, .ref a0, .ref a1, .ref a2, .int dc, .ref a3, .int tl, .ref a4, .int xl, .int fo, .int fa, .ref a5, .int mn, .ref a6, .int ft, .ref a7, .int wl])), (a0, .inl (cI, 3600, .inl rw)), (a1, .inl (cI, 2, .inl ct))] := hD
  refine lv_iload_n hx hb dX9_ask_5 rfl (lv_at hl 1 rfl) ?_
  refine lv_if_lt (tgt := 25) hx hb dX9_ask_6 (by decide) (fun c_1 => ?_) (fun c_1 => ?_)
  · rw [if_pos c_1] at hR
    refine lv_iconst (v := (-1)) hx hb dX9_ask_25 (by decide) ?_
    subst hR
    exact W.iret (v := (-1)) hx hb hr (fun t ht hW => ⟨⟨(-1), (), rfl, rfl, by rw [ht]; exact hP, hD⟩, hS.F ht⟩) hS.2.2 dX9_ask_26
  · rw [if_neg c_1] at hR
    refine lv_iload_n hx hb dX9_ask_9 rfl (lv_at hl 1 rfl) ?_
    refine lv_iconst (v := 1) hx hb dX9_ask_10 (by decide) ?_
    refine lv_icmp_gt (tgt := 25) hx hb dX9_ask_11 (by decide) (fun c_2 => ?_) (fun c_2 => ?_)
    · rw [if_pos c_2] at hR
      refine lv_iconst (v := (-1)) hx hb dX9_ask_25 (by decide) ?_
      subst hR
      exact W.iret (v := (-1)) hx hb hr (fun t ht hW => ⟨⟨(-1), (), rfl, rfl, by rw [ht]; exact hP, hD⟩, hS.F ht⟩) hS.2.2 dX9_ask_26
    · rw [if_neg c_2] at hR
      refine lv_iload hx hb dX9_ask_14 (lv_at hl 4 rfl) ?_
      refine lv_if_lt (tgt := 25) hx hb dX9_ask_16 (by decide) (fun c_3 => ?_) (fun c_3 => ?_)
      · rw [if_pos c_3] at hR
        refine lv_iconst (v := (-1)) hx hb dX9_ask_25 (by decide) ?_
        subst hR
        exact W.iret (v := (-1)) hx hb hr (fun t ht hW => ⟨⟨(-1), (), rfl, rfl, by rw [ht]; exact hP, hD⟩, hS.F ht⟩) hS.2.2 dX9_ask_26
      · rw [if_neg c_3] at hR
        refine lv_iload hx hb dX9_ask_19 (lv_at hl 4 rfl) ?_
        refine lv_iconst (v := 4) hx hb dX9_ask_21 (by decide) ?_
        refine lv_icmp_le (tgt := 27) hx hb dX9_ask_22 (by decide) (fun c_4 => ?_) (fun c_4 => ?_)
        · rw [if_pos c_4] at hR
          refine lv_aload_n hx hb dX9_ask_27 rfl (lv_at hl 0 rfl) ?_
          refine lv_iload_n hx hb dX9_ask_28 rfl (lv_at hl 1 rfl) ?_
          refine lv_iload_n hx hb dX9_ask_29 rfl (lv_at hl 2 rfl) ?_
          refine lv_iload_n hx hb dX9_ask_30 rfl (lv_at hl 3 rfl) ?_
          have p_5 : 0 ≤ x.toInt := by
            have k_6 : (0 : Int32).toInt = 0 := by decide
            have q_7 := i_nlt c_1
            have k_8 : (1 : Int32).toInt = 1 := by decide
            have q_9 := i_nlt c_2
            have q_10 := i_nlt c_3
            have k_11 : (4 : Int32).toInt = 4 := by decide
            have q_12 := i_le c_4
            try generalize Int32.toInt (0 : Int32) = z0 at *
            try generalize Int32.toInt (1 : Int32) = z1 at *
            try generalize Int32.toInt (4 : Int32) = z2 at *
            try generalize Int32.toInt w = z3 at *
            try generalize Int32.toInt x = z4 at *
            first | omega | exact ⟨by omega, by omega⟩
          have p_13 : x.toInt ≤ 1 := by
            have k_14 : (0 : Int32).toInt = 0 := by decide
            have q_15 := i_nlt c_1
            have k_16 : (1 : Int32).toInt = 1 := by decide
            have q_17 := i_nlt c_2
            have q_18 := i_nlt c_3
            have k_19 : (4 : Int32).toInt = 4 := by decide
            have q_20 := i_le c_4
            try generalize Int32.toInt (0 : Int32) = z0 at *
            try generalize Int32.toInt (1 : Int32) = z1 at *
            try generalize Int32.toInt (4 : Int32) = z2 at *
            try generalize Int32.toInt w = z3 at *
            try generalize Int32.toInt x = z4 at *
            first | omega | exact ⟨by omega, by omega⟩
          have p_21 : ∀ j : Nat, j < 2 → 0 ≤ (ct j).toInt ∧ (ct j).toInt ≤ 300 := by
            first | exact hct | assumption
          have hPc := hP.sub (ws' := [(h0, .inr (9, [.int 0, .ref a0, .ref a1, .ref a2, .int dc, .ref a3, .int tl, .ref a4, .int xl, .int fo, .int fa, .ref a5, .int mn, .ref a6, .int ft, .ref a7, .int wl])), (a0, .inl (cI, 3600, .inl rw)), (a1, .inl (cI, 2, .inl ct))]) [0, 1, 2] rfl
          have hDc := hD.sub (ws' := [(h0, .inr (9, [.int 0, .ref a0, .ref a1, .ref a2, .int dc, .ref a3, .int tl, .ref a4, .int xl, .int fo, .int fa, .ref a5, .int mn, .ref a6, .int ft, .ref a7, .int wl])), (a0, .inl (cI, 3600, .inl rw)), (a1, .inl (cI, 2, .inl ct))]) [0, 1, 2] (by decide) rfl
          refine vp_callSi (va_Run.run (va_runV (As := [.int x, .int y, .int z]) (rest := []) ⟨hx, hb, hml, hown, hts⟩ (c_X9_segmentOf l dC dI cB cC cI cJ H.size h0 a0 a1 a2 a3 a4 a5 a6 a7 0 dc tl xl fo fa mn ft wl rw ct x y z p_5 p_13 p_21) (cwV 3 hts gX9_ask_X9_segmentOf rfl rfl rfl (by decide +kernel) ⟨(Nat.le_of_ble_eq_true rfl), (Nat.le_of_ble_eq_true rfl)⟩) ⟨cP_blind, va_recv hG.1 hPc (ci := 9) (q0 := 0) rfl rfl, cP_pre hPc hG hDc⟩ rfl rfl hl.1 rfl (lv_room (Nat.le_of_ble_eq_true rfl)) dX9_ask_31 ⟨Nat.le_of_ble_eq_true rfl, Nat.le_of_ble_eq_true rfl⟩)) (fun r_22 hr_22 => ?_)
          obtain ⟨hr_22, er_22_0⟩ := hr_22
          rw [← hr_22] at er_22_0
          rw [bnd_eq hr_22.symm] at hR
          refine lv_istore (lv' := [(5, .int r_22), (0, .ref h0), (1, .int x), (2, .int y), (3, .int z), (4, .int w)]) hx hb dX9_ask_34 hl (by decide) rfl (fun ls hl => ?_)
          refine lv_iload hx hb dX9_ask_36 (lv_at hl 0 rfl) ?_
          refine lv_if_ge (tgt := 43) hx hb dX9_ask_38 (by decide) (fun c_23 => ?_) (fun c_23 => ?_)
          · rw [if_pos c_23] at hR
            refine lv_sipush (v := 1800) hx hb dX9_ask_43 (by decide) ?_
            refine lv_iload_n hx hb dX9_ask_46 rfl (lv_at hl 2 rfl) ?_
            refine lv_imul hx hb dX9_ask_47 ?_
            refine lv_bipush (v := 6) hx hb dX9_ask_48 (by decide) ?_
            refine lv_iload hx hb dX9_ask_50 (lv_at hl 0 rfl) ?_
            refine lv_imul hx hb dX9_ask_52 ?_
            refine lv_iadd hx hb dX9_ask_53 ?_
            refine lv_istore (lv' := [(6, .int ((1800 * x) + (6 * r_22))), (5, .int r_22), (0, .ref h0), (1, .int x), (2, .int y), (3, .int z), (4, .int w)]) hx hb dX9_ask_54 hl (by decide) rfl (fun ls hl => ?_)
            refine lv_aload_n hx hb dX9_ask_56 rfl (lv_at hl 2 rfl) ?_
            refine va_get (D := (dC, dI)) (ci := 9) (v := .ref a0) (C := RX9) (T := TX9) (N := 17) hx hb hts inc_X9_ask_9 hown hG.1 hP 0 rfl rfl 1 (by decide) (hts (.fieldLink RX9 13 "MappingDeskModel" "rows" "[I") (by decide +kernel)) (fun _ h9 => h9) rfl dX9_ask_57 ?_
            refine lv_iload hx hb dX9_ask_60 (lv_at hl 0 rfl) ?_
            refine lv_iconst (v := 2) hx hb dX9_ask_62 (by decide) ?_
            refine lv_iadd hx hb dX9_ask_63 ?_
            have b_24 : vp_in (((1800 * x) + (6 * r_22)) + 2) 3600 := by
              have k_25 : (0 : Int32).toInt = 0 := by decide
              have q_26 := i_nlt c_1
              have k_27 : (1 : Int32).toInt = 1 := by decide
              have q_28 := i_nlt c_2
              have q_29 := i_nlt c_3
              have k_30 : (4 : Int32).toInt = 4 := by decide
              have q_31 := i_le c_4
              have q_32 := i_le c_23
              have k_33 : (1800 : Int32).toInt = 1800 := by decide
              have t_34 : ((1800 * x)).toInt = 1800 * (x).toInt := by
                have z := ti_mul (a := 1800) (b := x) (by rw [show (1800 : Int32).toInt = 1800 from by decide]; omega) (by rw [show (1800 : Int32).toInt = 1800 from by decide]; omega)
                rw [z, show (1800 : Int32).toInt = 1800 from by decide]
              have k_35 : (6 : Int32).toInt = 6 := by decide
              have t_36 : ((6 * r_22)).toInt = 6 * (r_22).toInt := by
                have z := ti_mul (a := 6) (b := r_22) (by rw [show (6 : Int32).toInt = 6 from by decide]; omega) (by rw [show (6 : Int32).toInt = 6 from by decide]; omega)
                rw [z, show (6 : Int32).toInt = 6 from by decide]
              have t_37 := ti_add (a := (1800 * x)) (b := (6 * r_22)) (by omega) (by omega)
              have k_38 : (2 : Int32).toInt = 2 := by decide
              have t_39 := ti_add (a := ((1800 * x) + (6 * r_22))) (b := 2) (by omega) (by omega)
              refine vin ?_ ?_
              all_goals (try generalize Int32.toInt (((1800 * x) + (6 * r_22)) + 2) = z0 at *; try generalize Int32.toInt ((1800 * x) + (6 * r_22)) = z1 at *; try generalize Int32.toInt (1800 * x) = z2 at *; try generalize Int32.toInt (6 * r_22) = z3 at *; try generalize Int32.toInt (1800 : Int32) = z4 at *; try generalize Int32.toInt r_22 = z5 at *; try generalize Int32.toInt (0 : Int32) = z6 at *; try generalize Int32.toInt (1 : Int32) = z7 at *; try generalize Int32.toInt (2 : Int32) = z8 at *; try generalize Int32.toInt (4 : Int32) = z9 at *; try generalize Int32.toInt (6 : Int32) = z10 at *; try generalize Int32.toInt w = z11 at *; try generalize Int32.toInt x = z12 at *; omega)
            refine va_iald hx hb hG.1 hP 1 2 rfl rfl b_24 dX9_ask_64 ?_
            refine lv_if_ge (tgt := 70) hx hb dX9_ask_65 (by decide) (fun c_42 => ?_) (fun c_42 => ?_)
            · rw [if_pos c_42] at hR
              refine lv_iload hx hb dX9_ask_70 (lv_at hl 6 rfl) ?_
              refine lv_iconst (v := 4) hx hb dX9_ask_72 (by decide) ?_
              refine lv_icmp_ne (tgt := 81) hx hb dX9_ask_73 (by decide) (fun c_43 => ?_) (fun c_43 => ?_)
              · rw [if_neg c_43] at hR
                refine lv_aload_n hx hb dX9_ask_81 rfl (lv_at hl 2 rfl) ?_
                refine va_get (D := (dC, dI)) (ci := 9) (v := .ref a0) (C := RX9) (T := TX9) (N := 17) hx hb hts inc_X9_ask_9 hown hG.1 hP 0 rfl rfl 1 (by decide) (hts (.fieldLink RX9 13 "MappingDeskModel" "rows" "[I") (by decide +kernel)) (fun _ h9 => h9) rfl dX9_ask_82 ?_
                refine lv_iload hx hb dX9_ask_85 (lv_at hl 0 rfl) ?_
                refine lv_iconst (v := 2) hx hb dX9_ask_87 (by decide) ?_
                refine lv_iadd hx hb dX9_ask_88 ?_
                refine lv_iload hx hb dX9_ask_89 (lv_at hl 6 rfl) ?_
                refine lv_iadd hx hb dX9_ask_91 ?_
                have b_44 : vp_in ((((1800 * x) + (6 * r_22)) + 2) + w) 3600 := by
                  have k_45 : (0 : Int32).toInt = 0 := by decide
                  have q_46 := i_nlt c_1
                  have k_47 : (1 : Int32).toInt = 1 := by decide
                  have q_48 := i_nlt c_2
                  have q_49 := i_nlt c_3
                  have k_50 : (4 : Int32).toInt = 4 := by decide
                  have q_51 := i_le c_4
                  have q_52 := i_le c_23
                  have q_53 := i_le c_42
                  have q_54 := i_ne c_43
                  have k_55 : (1800 : Int32).toInt = 1800 := by decide
                  have t_56 : ((1800 * x)).toInt = 1800 * (x).toInt := by
                    have z := ti_mul (a := 1800) (b := x) (by rw [show (1800 : Int32).toInt = 1800 from by decide]; omega) (by rw [show (1800 : Int32).toInt = 1800 from by decide]; omega)
                    rw [z, show (1800 : Int32).toInt = 1800 from by decide]
                  have k_57 : (6 : Int32).toInt = 6 := by decide
                  have t_58 : ((6 * r_22)).toInt = 6 * (r_22).toInt := by
                    have z := ti_mul (a := 6) (b := r_22) (by rw [show (6 : Int32).toInt = 6 from by decide]; omega) (by rw [show (6 : Int32).toInt = 6 from by decide]; omega)
                    rw [z, show (6 : Int32).toInt = 6 from by decide]
                  have t_59 := ti_add (a := (1800 * x)) (b := (6 * r_22)) (by omega) (by omega)
                  have k_60 : (2 : Int32).toInt = 2 := by decide
                  have t_61 := ti_add (a := ((1800 * x) + (6 * r_22))) (b := 2) (by omega) (by omega)
                  have t_62 := ti_add (a := (((1800 * x) + (6 * r_22)) + 2)) (b := w) (by omega) (by omega)
                  refine vin ?_ ?_
                  all_goals (try generalize Int32.toInt (rw (((1800 * x) + (6 * r_22)) + 2).toNatClampNeg) = z0 at *; try generalize Int32.toInt ((((1800 * x) + (6 * r_22)) + 2) + w) = z1 at *; try generalize Int32.toInt (((1800 * x) + (6 * r_22)) + 2) = z2 at *; try generalize Int32.toInt ((1800 * x) + (6 * r_22)) = z3 at *; try generalize Int32.toInt (1800 * x) = z4 at *; try generalize Int32.toInt (6 * r_22) = z5 at *; try generalize Int32.toInt (1800 : Int32) = z6 at *; try generalize Int32.toInt r_22 = z7 at *; try generalize Int32.toInt (0 : Int32) = z8 at *; try generalize Int32.toInt (1 : Int32) = z9 at *; try generalize Int32.toInt (2 : Int32) = z10 at *; try generalize Int32.toInt (4 : Int32) = z11 at *; try generalize Int32.toInt (6 : Int32) = z12 at *; try generalize Int32.toInt w = z13 at *; try generalize Int32.toInt x = z14 at *; omega)
                refine va_iald hx hb hG.1 hP 1 2 rfl rfl b_44 dX9_ask_92 ?_
                subst hR
                exact W.iret (v := (rw ((((1800 * x) + (6 * r_22)) + 2) + w).toNatClampNeg)) hx hb hr (fun t ht hW => ⟨⟨(rw ((((1800 * x) + (6 * r_22)) + 2) + w).toNatClampNeg), (), rfl, rfl, by rw [ht]; exact hP, hD⟩, hS.F ht⟩) hS.2.2 dX9_ask_93
              · rw [if_pos c_43] at hR
                refine lv_iload hx hb dX9_ask_76 (lv_at hl 1 rfl) ?_
                refine lv_goto (tgt := 93) hx hb dX9_ask_78 (by decide) ?_
                subst hR
                exact W.iret (v := r_22) hx hb hr (fun t ht hW => ⟨⟨r_22, (), rfl, rfl, by rw [ht]; exact hP, hD⟩, hS.F ht⟩) hS.2.2 dX9_ask_93
            · rw [if_neg c_42] at hR
              refine lv_iconst (v := (-1)) hx hb dX9_ask_68 (by decide) ?_
              subst hR
              exact W.iret (v := (-1)) hx hb hr (fun t ht hW => ⟨⟨(-1), (), rfl, rfl, by rw [ht]; exact hP, hD⟩, hS.F ht⟩) hS.2.2 dX9_ask_69
          · rw [if_neg c_23] at hR
            refine lv_iconst (v := (-1)) hx hb dX9_ask_41 (by decide) ?_
            subst hR
            exact W.iret (v := (-1)) hx hb hr (fun t ht hW => ⟨⟨(-1), (), rfl, rfl, by rw [ht]; exact hP, hD⟩, hS.F ht⟩) hS.2.2 dX9_ask_42
        · rw [if_neg c_4] at hR
          refine lv_iconst (v := (-1)) hx hb dX9_ask_25 (by decide) ?_
          subst hR
          exact W.iret (v := (-1)) hx hb hr (fun t ht hW => ⟨⟨(-1), (), rfl, rfl, by rw [ht]; exact hP, hD⟩, hS.F ht⟩) hS.2.2 dX9_ask_26

def fX9_isBefore (th dc tl xl fo fa mn ft wl : Int32) (rw : Nat → Int32) (x y z : Int32) : Int32 :=
  if y < (rw x.toNatClampNeg) then
    1
  else
    if y = (rw x.toNatClampNeg) then
      if (rw (x + 1).toNatClampNeg) ≤ z then
        0
      else
        1
    else
      0
theorem inc_X9_isBefore_9 : ∀ w ∈ u_ws RX9 TX9 17, w ∈ wsX9_isBefore := by decide +kernel
set_option maxHeartbeats 4000000 in
set_option maxRecDepth 100000 in
theorem c_X9_isBefore (l : Launch) (dC : Nat → ClassId) (dI : Nat → Nat → Nat) (cB cC cI cJ : ClassId) (sz : Nat) (h0 a0 a1 a2 a3 a4 a5 a6 a7 : Nat) (th dc tl xl fo fa mn ft wl : Int32) (rw : Nat → Int32) (x y z : Int32) (hx0 : 0 ≤ x.toInt) (hx1 : x.toInt < 3599) : Met l yX9_isBefore wsX9_isBefore ({ frames := 0, cells := 0, slots := 0, locals := 0 } : Room) (cP dC dI cB cC cI cJ [.ref h0, .int x, .int y, .int z] sz [(h0, .inr (9, [.int th, .ref a0, .ref a1, .ref a2, .int dc, .ref a3, .int tl, .ref a4, .int xl, .int fo, .int fa, .ref a5, .int mn, .ref a6, .int ft, .ref a7, .int wl])), (a0, .inl (cI, 3600, .inl rw))]) (vp_Si (fun r => r = (fX9_isBefore th dc tl xl fo fa mn ft wl rw x y z))) 0 0 (fun _ => False) := by
  refine Met.ofW (cc := cX9_isBefore) (maxL := 4) (ret := (some .boolean)) (by decide) rfl ?_
  intro p e s m args below meth c s₁ B hml hv
  obtain ⟨rfl, hsz, hP, hG, hD0⟩ := hv
  have hx := B.exec
  have hb := B.bytes
  have hr := B.returns
  have hts := atoms_spec (ws := wsX9_isBefore) B.pre
  have hown : s.vm.findClass RX9 = some m.cls := findClass_of_methodNamed B.named
  have hlocks := B.notSynchronized
  subst hsz
  obtain ⟨H, hH⟩ : ∃ H : Heap, H = s.heap := ⟨_, rfl⟩
  rw [← hH] at hP ⊢
  generalize hR : fX9_isBefore th dc tl xl fo fa mn ft wl rw x y z = R
  unfold fX9_isBefore at hR
  have hl := lv_entry ([.ref h0, .int x, .int y, .int z]) (n := 4) (Nat.le_of_ble_eq_true rfl)
  rw [lg_entry_eq]
  generalize (lg_sl ([.ref h0, .int x, .int y, .int z]) ++ List.replicate (4 - (lg_sl ([.ref h0, .int x, .int y, .int z])).length) Slot.unset).toArray = ls at hl ⊢
  have hl : lv_has ls 4 [(0, .ref h0), (1, .int x), (2, .int y), (3, .int z)] := hl
  refine lv_iload_n hx hb dX9_isBefore_0 rfl (lv_at hl 2 rfl) ?_
  refine lv_aload_n hx hb dX9_isBefore_1 rfl (lv_at hl 0 rfl) ?_
  refine va_get (D := (dC, dI)) (ci := 9) (v := .ref a0) (C := RX9) (T := TX9) (N := 17) hx hb hts inc_X9_isBefore_9 hown hG.1 hP 0 rfl rfl 1 (by decide) (hts (.fieldLink RX9 13 "MappingDeskModel" "rows" "[I") (by decide +kernel)) (fun _ h9 => h9) rfl dX9_isBefore_2 ?_
  refine lv_iload_n hx hb dX9_isBefore_5 rfl (lv_at hl 1 rfl) ?_
  have b_1 : vp_in x 3600 := by
    refine vin ?_ ?_
    all_goals (try generalize Int32.toInt x = z0 at *; omega)
  refine va_iald hx hb hG.1 hP 1 2 rfl rfl b_1 dX9_isBefore_6 ?_
  refine lv_icmp_lt (tgt := 32) hx hb dX9_isBefore_7 (by decide) (fun c_4 => ?_) (fun c_4 => ?_)
  · rw [if_pos c_4] at hR
    refine lv_iconst (v := 1) hx hb dX9_isBefore_32 (by decide) ?_
    refine lv_goto (tgt := 37) hx hb dX9_isBefore_33 (by decide) ?_
    subst hR
    exact W.zret (v := 1) hx hb hr rfl (fun t ht hW => ⟨1, rfl, rfl, ht.trans hH⟩) t_nil dX9_isBefore_37
  · rw [if_neg c_4] at hR
    refine lv_iload_n hx hb dX9_isBefore_10 rfl (lv_at hl 2 rfl) ?_
    refine lv_aload_n hx hb dX9_isBefore_11 rfl (lv_at hl 0 rfl) ?_
    refine va_get (D := (dC, dI)) (ci := 9) (v := .ref a0) (C := RX9) (T := TX9) (N := 17) hx hb hts inc_X9_isBefore_9 hown hG.1 hP 0 rfl rfl 1 (by decide) (hts (.fieldLink RX9 13 "MappingDeskModel" "rows" "[I") (by decide +kernel)) (fun _ h9 => h9) rfl dX9_isBefore_12 ?_
    refine lv_iload_n hx hb dX9_isBefore_15 rfl (lv_at hl 1 rfl) ?_
    have b_5 : vp_in x 3600 := by
      have q_6 := i_nlt c_4
      refine vin ?_ ?_
      all_goals (try generalize Int32.toInt (rw x.toNatClampNeg) = z0 at *; try generalize Int32.toInt x = z1 at *; try generalize Int32.toInt y = z2 at *; omega)
    refine va_iald hx hb hG.1 hP 1 2 rfl rfl b_5 dX9_isBefore_16 ?_
    refine lv_icmp_ne (tgt := 36) hx hb dX9_isBefore_17 (by decide) (fun c_9 => ?_) (fun c_9 => ?_)
    · rw [if_neg c_9] at hR
      refine lv_iconst (v := 0) hx hb dX9_isBefore_36 (by decide) ?_
      subst hR
      exact W.zret (v := 0) hx hb hr rfl (fun t ht hW => ⟨0, rfl, rfl, ht.trans hH⟩) t_nil dX9_isBefore_37
    · rw [if_pos c_9] at hR
      refine lv_iload_n hx hb dX9_isBefore_20 rfl (lv_at hl 3 rfl) ?_
      refine lv_aload_n hx hb dX9_isBefore_21 rfl (lv_at hl 0 rfl) ?_
      refine va_get (D := (dC, dI)) (ci := 9) (v := .ref a0) (C := RX9) (T := TX9) (N := 17) hx hb hts inc_X9_isBefore_9 hown hG.1 hP 0 rfl rfl 1 (by decide) (hts (.fieldLink RX9 13 "MappingDeskModel" "rows" "[I") (by decide +kernel)) (fun _ h9 => h9) rfl dX9_isBefore_22 ?_
      refine lv_iload_n hx hb dX9_isBefore_25 rfl (lv_at hl 1 rfl) ?_
      refine lv_iconst (v := 1) hx hb dX9_isBefore_26 (by decide) ?_
      refine lv_iadd hx hb dX9_isBefore_27 ?_
      have b_10 : vp_in (x + 1) 3600 := by
        have q_11 := i_nlt c_4
        have q_12 := i_eq c_9
        have k_13 : (1 : Int32).toInt = 1 := by decide
        have t_14 := ti_add (a := x) (b := 1) (by omega) (by omega)
        refine vin ?_ ?_
        all_goals (try generalize Int32.toInt (rw x.toNatClampNeg) = z0 at *; try generalize Int32.toInt (x + 1) = z1 at *; try generalize Int32.toInt (1 : Int32) = z2 at *; try generalize Int32.toInt x = z3 at *; try generalize Int32.toInt y = z4 at *; omega)
      refine va_iald hx hb hG.1 hP 1 2 rfl rfl b_10 dX9_isBefore_28 ?_
      refine lv_icmp_ge (tgt := 36) hx hb dX9_isBefore_29 (by decide) (fun c_17 => ?_) (fun c_17 => ?_)
      · rw [if_pos c_17] at hR
        refine lv_iconst (v := 0) hx hb dX9_isBefore_36 (by decide) ?_
        subst hR
        exact W.zret (v := 0) hx hb hr rfl (fun t ht hW => ⟨0, rfl, rfl, ht.trans hH⟩) t_nil dX9_isBefore_37
      · rw [if_neg c_17] at hR
        refine lv_iconst (v := 1) hx hb dX9_isBefore_32 (by decide) ?_
        refine lv_goto (tgt := 37) hx hb dX9_isBefore_33 (by decide) ?_
        subst hR
        exact W.zret (v := 1) hx hb hr rfl (fun t ht hW => ⟨1, rfl, rfl, ht.trans hH⟩) t_nil dX9_isBefore_37

def fX9_compose_9 (th dc tl xl fo fa mn ft wl : Int32) (rw : Nat → Int32) (ct : Nat → Int32) : Nat → Int32 → Int32 → (Nat → Int32) → Int32 × Int32 × (Nat → Int32)
  | 0, _, _, _ => (0, 0, (fun _ => 0))
  | n + 1, te, k, rz =>
    if (ct (0 : Int32).toNatClampNeg) ≤ k then
      (te, 0, rz)
    else
      if 0 ≤ (rz ((6 * k) + 2).toNatClampNeg) then
        bnd (fX9_segmentOf 0 dc tl xl fo fa mn ft wl rz ct 1 (rz ((6 * k) + 3).toNatClampNeg) (rz ((6 * k) + 4).toNatClampNeg)) fun r_46 =>
        if r_46 < 0 then
          fX9_compose_9 th dc tl xl fo fa mn ft wl rw ct n te (k + 1) (upd (upd (upd (upd rz ((6 * k) + 2).toNatClampNeg (-1)) ((6 * k) + 3).toNatClampNeg 0) ((6 * k) + 4).toNatClampNeg 0) ((6 * k) + 5).toNatClampNeg (-1))
        else
          if 0 ≤ (rz ((1800 + (6 * r_46)) + 2).toNatClampNeg) then
            if 0 ≤ ((upd (upd (upd rz ((6 * k) + 2).toNatClampNeg (rz ((1800 + (6 * r_46)) + 2).toNatClampNeg)) ((6 * k) + 3).toNatClampNeg ((upd rz ((6 * k) + 2).toNatClampNeg (rz ((1800 + (6 * r_46)) + 2).toNatClampNeg)) ((1800 + (6 * r_46)) + 3).toNatClampNeg)) ((6 * k) + 4).toNatClampNeg ((upd (upd rz ((6 * k) + 2).toNatClampNeg (rz ((1800 + (6 * r_46)) + 2).toNatClampNeg)) ((6 * k) + 3).toNatClampNeg ((upd rz ((6 * k) + 2).toNatClampNeg (rz ((1800 + (6 * r_46)) + 2).toNatClampNeg)) ((1800 + (6 * r_46)) + 3).toNatClampNeg)) ((1800 + (6 * r_46)) + 4).toNatClampNeg)) ((6 * k) + 5).toNatClampNeg) then
              fX9_compose_9 th dc tl xl fo fa mn ft wl rw ct n (te + 1) (k + 1) (upd (upd (upd rz ((6 * k) + 2).toNatClampNeg (rz ((1800 + (6 * r_46)) + 2).toNatClampNeg)) ((6 * k) + 3).toNatClampNeg ((upd rz ((6 * k) + 2).toNatClampNeg (rz ((1800 + (6 * r_46)) + 2).toNatClampNeg)) ((1800 + (6 * r_46)) + 3).toNatClampNeg)) ((6 * k) + 4).toNatClampNeg ((upd (upd rz ((6 * k) + 2).toNatClampNeg (rz ((1800 + (6 * r_46)) + 2).toNatClampNeg)) ((6 * k) + 3).toNatClampNeg ((upd rz ((6 * k) + 2).toNatClampNeg (rz ((1800 + (6 * r_46)) + 2).toNatClampNeg)) ((1800 + (6 * r_46)) + 3).toNatClampNeg)) ((1800 + (6 * r_46)) + 4).toNatClampNeg))
            else
              fX9_compose_9 th dc tl xl fo fa mn ft wl rw ct n (te + 1) (k + 1) (upd (upd (upd (upd rz ((6 * k) + 2).toNatClampNeg (rz ((1800 + (6 * r_46)) + 2).toNatClampNeg)) ((6 * k) + 3).toNatClampNeg ((upd rz ((6 * k) + 2).toNatClampNeg (rz ((1800 + (6 * r_46)) + 2).toNatClampNeg)) ((1800 + (6 * r_46)) + 3).toNatClampNeg)) ((6 * k) + 4).toNatClampNeg ((upd (upd rz ((6 * k) + 2).toNatClampNeg (rz ((1800 + (6 * r_46)) + 2).toNatClampNeg)) ((6 * k) + 3).toNatClampNeg ((upd rz ((6 * k) + 2).toNatClampNeg (rz ((1800 + (6 * r_46)) + 2).toNatClampNeg)) ((1800 + (6 * r_46)) + 3).toNatClampNeg)) ((1800 + (6 * r_46)) + 4).toNatClampNeg)) ((6 * k) + 5).toNatClampNeg ((upd (upd (upd rz ((6 * k) + 2).toNatClampNeg (rz ((1800 + (6 * r_46)) + 2).toNatClampNeg)) ((6 * k) + 3).toNatClampNeg ((upd rz ((6 * k) + 2).toNatClampNeg (rz ((1800 + (6 * r_46)) + 2).toNatClampNeg)) ((1800 + (6 * r_46)) + 3).toNatClampNeg)) ((6 * k) + 4).toNatClampNeg ((upd (upd rz ((6 * k) + 2).toNatClampNeg (rz ((1800 + (6 * r_46)) + 2).toNatClampNeg)) ((6 * k) + 3).toNatClampNeg ((upd rz ((6 * k) + 2).toNatClampNeg (rz ((1800 + (6 * r_46)) + 2).toNatClampNeg)) ((1800 + (6 * r_46)) + 3).toNatClampNeg)) ((1800 + (6 * r_46)) + 4).toNatClampNeg)) ((1800 + (6 * r_46)) + 5).toNatClampNeg))
          else
            fX9_compose_9 th dc tl xl fo fa mn ft wl rw ct n te (k + 1) (upd (upd (upd (upd rz ((6 * k) + 2).toNatClampNeg (-1)) ((6 * k) + 3).toNatClampNeg 0) ((6 * k) + 4).toNatClampNeg 0) ((6 * k) + 5).toNatClampNeg (-1))
      else
        fX9_compose_9 th dc tl xl fo fa mn ft wl rw ct n te (k + 1) rz
def fX9_compose (th dc tl xl fo fa mn ft wl : Int32) (rw : Nat → Int32) (ct : Nat → Int32) : Int32 × Int32 × (Nat → Int32) :=
  fX9_compose_9 th dc tl xl fo fa mn ft wl rw ct 301 0 0 rw
theorem inc_X9_compose_9 : ∀ w ∈ u_ws RX9 TX9 17, w ∈ wsX9_compose := by decide +kernel
set_option maxHeartbeats 4000000 in
set_option maxRecDepth 100000 in
theorem c_X9_compose (l : Launch) (dC : Nat → ClassId) (dI : Nat → Nat → Nat) (cB cC cI cJ : ClassId) (sz : Nat) (h0 a0 a1 a2 a3 a4 a5 a6 a7 : Nat) (th dc tl xl fo fa mn ft wl : Int32) (rw : Nat → Int32) (ct : Nat → Int32) (hct : ∀ j : Nat, j < 2 → 0 ≤ (ct j).toInt ∧ (ct j).toInt ≤ 300) : Met l yX9_compose wsX9_compose ({ frames := 1, cells := 0, slots := 0, locals := 26 } : Room) (cP dC dI cB cC cI cJ [.ref h0] sz [(h0, .inr (9, [.int th, .ref a0, .ref a1, .ref a2, .int dc, .ref a3, .int tl, .ref a4, .int xl, .int fo, .int fa, .ref a5, .int mn, .ref a6, .int ft, .ref a7, .int wl])), (a0, .inl (cI, 3600, .inl rw)), (a1, .inl (cI, 2, .inl ct))]) (va_Qi (fun r _ => r = (fX9_compose th dc tl xl fo fa mn ft wl rw ct).1) (cE dC dI (va_A [(h0, .inr (9, [.int th, .ref a0, .ref a1, .ref a2, .int dc, .ref a3, .int tl, .ref a4, .int xl, .int fo, .int fa, .ref a5, .int mn, .ref a6, .int ft, .ref a7, .int wl])), (a0, .inl (cI, 3600, .inl rw)), (a1, .inl (cI, 2, .inl ct))] sz) [(h0, .inr (9, [.int (fX9_compose th dc tl xl fo fa mn ft wl rw ct).2.1, .ref a0, .ref a1, .ref a2, .int dc, .ref a3, .int tl, .ref a4, .int xl, .int fo, .int fa, .ref a5, .int mn, .ref a6, .int ft, .ref a7, .int wl])), (a0, .inl (cI, 3600, .inl (fX9_compose th dc tl xl fo fa mn ft wl rw ct).2.2)), (a1, .inl (cI, 2, .inl ct))]) (va_A [(h0, .inr (9, [.int th, .ref a0, .ref a1, .ref a2, .int dc, .ref a3, .int tl, .ref a4, .int xl, .int fo, .int fa, .ref a5, .int mn, .ref a6, .int ft, .ref a7, .int wl])), (a0, .inl (cI, 3600, .inl rw)), (a1, .inl (cI, 2, .inl ct))] sz)) 0 0 (va_A [(h0, .inr (9, [.int th, .ref a0, .ref a1, .ref a2, .int dc, .ref a3, .int tl, .ref a4, .int xl, .int fo, .int fa, .ref a5, .int mn, .ref a6, .int ft, .ref a7, .int wl])), (a0, .inl (cI, 3600, .inl rw)), (a1, .inl (cI, 2, .inl ct))] sz) := by
  refine Met.ofW (cc := cX9_compose) (maxL := 6) (ret := (some .int)) (by decide) rfl ?_
  intro p e s m args below meth c s₁ B hml hv
  obtain ⟨rfl, hsz, hP, hG, hD0⟩ := hv
  have hx := B.exec
  have hb := B.bytes
  have hr := B.returns
  have hts := atoms_spec (ws := wsX9_compose) B.pre
  have hown : s.vm.findClass RX9 = some m.cls := findClass_of_methodNamed B.named
  have hlocks := B.notSynchronized
  subst hsz
  have hD := hD0.self (sz := s.heap.size)
  generalize hAe : va_A [(h0, .inr (9, [.int th, .ref a0, .ref a1, .ref a2, .int dc, .ref a3, .int tl, .ref a4, .int xl, .int fo, .int fa, .ref a5, .int mn, .ref a6, .int ft, .ref a7, .int wl])), (a0, .inl (cI, 3600, .inl rw)), (a1, .inl (cI, 2, .inl ct))] s.heap.size = A at hD ⊢
  have hA : ∀ q : Nat, s.heap.size ≤ q → A q := fun q h => by rw [← hAe]; exact Or.inr h
  obtain ⟨H, hH⟩ : ∃ H : Heap, H = s.heap := ⟨_, rfl⟩
  have hS : va_S A s.heap H [] := by rw [hH]; exact va_S.rf
  rw [← hH] at hP ⊢
  generalize hR : fX9_compose th dc tl xl fo fa mn ft wl rw ct = R
  unfold fX9_compose at hR
  have hl := lv_entry ([.ref h0]) (n := 6) (Nat.le_of_ble_eq_true rfl)
  rw [lg_entry_eq]
  generalize (lg_sl ([.ref h0]) ++ List.replicate (6 - (lg_sl ([.ref h0])).length) Slot.unset).toArray = ls at hl ⊢
  have hl : lv_has ls 6 [(0, .ref h0)] := hl
  have loop_9 : ∀ (n : Nat), ∀ (te : Int32) (k : Int32) (rz : Nat → Int32) (H : Heap) (locs : List Loc) (ls : Array Slot), fX9_compose_9 th dc tl xl fo fa mn ft wl rw ct n te k rz = R → (0 ≤ k.toInt) → (k.toInt ≤ (ct (0 : Int32).toNatClampNeg).toInt) → ((ct (0 : Int32).toNatClampNeg).toInt - k.toInt < ((n : Nat) : Int)) → va_P (dC, dI) vwCl [(h0, .inr (9, [.int 0, .ref a0, .ref a1, .ref a2, .int dc, .ref a3, .int tl, .ref a4, .int xl, .int fo, .int fa, .ref a5, .int mn, .ref a6, .int ft, .ref a7, .int wl])), (a0, .inl (cI, 3600, .inl rz)), (a1, .inl (cI, 2, .inl ct))] H → va_D A [(h0, .inr (9, [.int 0, .ref a0, .ref a1, .ref a2, .int dc, .ref a3, .int tl, .ref a4, .int xl, .int fo, .int fa, .ref a5, .int mn, .ref a6, .int ft, .ref a7, .int wl])), (a0, .inl (cI, 3600, .inl rz)), (a1, .inl (cI, 2, .inl ct))] → va_S A s.heap H locs → lv_has ls 6 [(0, .ref h0), (1, .int te), (2, .int k)] → W p l e (headSpec wsX9_compose ({ frames := 1, cells := 0, slots := 0, locals := 26 } : Room)).room s m ([.ref h0] : List Value).toArray below meth c H locs 0 0 (MQ below (va_Qi (fun r _ => r = R.1) (cE dC dI (A) [(h0, .inr (9, [.int R.2.1, .ref a0, .ref a1, .ref a2, .int dc, .ref a3, .int tl, .ref a4, .int xl, .int fo, .int fa, .ref a5, .int mn, .ref a6, .int ft, .ref a7, .int wl])), (a0, .inl (cI, 3600, .inl R.2.2)), (a1, .inl (cI, 2, .inl ct))]) (A)) ([.ref h0] : List Value).toArray s 0 0 A) (F0 m 9 ls []) := by
    intro n
    induction n with
    | zero => intro te k rz H locs ls hR hk0 hk1 hmu; exfalso; omega
    | succ n ih =>
      intro te k rz H locs ls hR hk0 hk1 hmu hP hD hS hl
      rw [fX9_compose_9] at hR
      refine lv_iload_n hx hb dX9_compose_9 rfl (lv_at hl 2 rfl) ?_
      refine lv_aload_n hx hb dX9_compose_10 rfl (lv_at hl 0 rfl) ?_
      refine va_get (D := (dC, dI)) (ci := 9) (v := .ref a1) (C := RX9) (T := TX9) (N := 17) hx hb hts inc_X9_compose_9 hown hG.1 hP 0 rfl rfl 2 (by decide) (hts (.fieldLink RX9 17 "MappingDeskModel" "count" "[I") (by decide +kernel)) (fun _ h9 => h9) rfl dX9_compose_11 ?_
      refine lv_iconst (v := 0) hx hb dX9_compose_14 (by decide) ?_
      have b_1 : vp_in 0 2 := by
        have hq7 := hct (0 : Int32).toNatClampNeg (by decide)
        have k_2 : (0 : Int32).toInt = 0 := by decide
        refine vin ?_ ?_
        all_goals (try generalize Int32.toInt (ct (0 : Int32).toNatClampNeg) = z0 at *; try generalize Int32.toInt (0 : Int32) = z1 at *; try generalize Int32.toInt k = z2 at *; omega)
      refine va_iald hx hb hG.1 hP 2 2 rfl rfl b_1 dX9_compose_15 ?_
      refine lv_icmp_ge (tgt := 216) hx hb dX9_compose_16 (by decide) (fun c_5 => ?_) (fun c_5 => ?_)
      · rw [if_pos c_5] at hR
        refine lv_iload_n hx hb dX9_compose_216 rfl (lv_at hl 1 rfl) ?_
        subst hR
        exact W.iret (v := te) hx hb hr (fun t ht hW => ⟨⟨te, (), rfl, rfl, by rw [ht]; exact hP, hD⟩, hS.F ht⟩) hS.2.2 dX9_compose_217
      · rw [if_neg c_5] at hR
        refine lv_bipush (v := 6) hx hb dX9_compose_19 (by decide) ?_
        refine lv_iload_n hx hb dX9_compose_21 rfl (lv_at hl 2 rfl) ?_
        refine lv_imul hx hb dX9_compose_22 ?_
        refine lv_istore_n (lv' := [(3, .int (6 * k)), (0, .ref h0), (1, .int te), (2, .int k)]) hx hb dX9_compose_23 rfl hl (by decide) rfl (fun ls hl => ?_)
        refine lv_aload_n hx hb dX9_compose_24 rfl (lv_at hl 1 rfl) ?_
        refine va_get (D := (dC, dI)) (ci := 9) (v := .ref a0) (C := RX9) (T := TX9) (N := 17) hx hb hts inc_X9_compose_9 hown hG.1 hP 0 rfl rfl 1 (by decide) (hts (.fieldLink RX9 13 "MappingDeskModel" "rows" "[I") (by decide +kernel)) (fun _ h9 => h9) rfl dX9_compose_25 ?_
        refine lv_iload_n hx hb dX9_compose_28 rfl (lv_at hl 0 rfl) ?_
        refine lv_iconst (v := 2) hx hb dX9_compose_29 (by decide) ?_
        refine lv_iadd hx hb dX9_compose_30 ?_
        have b_6 : vp_in ((6 * k) + 2) 3600 := by
          have q_7 := i_nle c_5
          have hq7 := hct (0 : Int32).toNatClampNeg (by decide)
          have k_8 : (6 : Int32).toInt = 6 := by decide
          have t_9 : ((6 * k)).toInt = 6 * (k).toInt := by
            have z := ti_mul (a := 6) (b := k) (by rw [show (6 : Int32).toInt = 6 from by decide]; omega) (by rw [show (6 : Int32).toInt = 6 from by decide]; omega)
            rw [z, show (6 : Int32).toInt = 6 from by decide]
          have k_10 : (2 : Int32).toInt = 2 := by decide
          have t_11 := ti_add (a := (6 * k)) (b := 2) (by omega) (by omega)
          refine vin ?_ ?_
          all_goals (try generalize Int32.toInt (ct (0 : Int32).toNatClampNeg) = z0 at *; try generalize Int32.toInt ((6 * k) + 2) = z1 at *; try generalize Int32.toInt (6 * k) = z2 at *; try generalize Int32.toInt (2 : Int32) = z3 at *; try generalize Int32.toInt (6 : Int32) = z4 at *; try generalize Int32.toInt k = z5 at *; omega)
        refine va_iald hx hb hG.1 hP 1 2 rfl rfl b_6 dX9_compose_31 ?_
        refine lv_if_ge (tgt := 38) hx hb dX9_compose_32 (by decide) (fun c_14 => ?_) (fun c_14 => ?_)
        · rw [if_pos c_14] at hR
          refine lv_aload_n hx hb dX9_compose_38 rfl (lv_at hl 1 rfl) ?_
          refine lv_iconst (v := 1) hx hb dX9_compose_39 (by decide) ?_
          refine lv_aload_n hx hb dX9_compose_40 rfl (lv_at hl 1 rfl) ?_
          refine va_get (D := (dC, dI)) (ci := 9) (v := .ref a0) (C := RX9) (T := TX9) (N := 17) hx hb hts inc_X9_compose_9 hown hG.1 hP 0 rfl rfl 1 (by decide) (hts (.fieldLink RX9 13 "MappingDeskModel" "rows" "[I") (by decide +kernel)) (fun _ h9 => h9) rfl dX9_compose_41 ?_
          refine lv_iload_n hx hb dX9_compose_44 rfl (lv_at hl 0 rfl) ?_
          refine lv_iconst (v := 3) hx hb dX9_compose_45 (by decide) ?_
          refine lv_iadd hx hb dX9_compose_46 ?_
          have b_15 : vp_in ((6 * k) + 3) 3600 := by
            have q_16 := i_nle c_5
            have k_17 : (0 : Int32).toInt = 0 := by decide
            have q_18 := i_le c_14
            have hq7 := hct (0 : Int32).toNatClampNeg (by decide)
            have k_19 : (6 : Int32).toInt = 6 := by decide
            have t_20 : ((6 * k)).toInt = 6 * (k).toInt := by
              have z := ti_mul (a := 6) (b := k) (by rw [show (6 : Int32).toInt = 6 from by decide]; omega) (by rw [show (6 : Int32).toInt = 6 from by decide]; omega)
              rw [z, show (6 : Int32).toInt = 6 from by decide]
            have k_21 : (3 : Int32).toInt = 3 := by decide
            have t_22 := ti_add (a := (6 * k)) (b := 3) (by omega) (by omega)
            refine vin ?_ ?_
            all_goals (try generalize Int32.toInt (rz ((6 * k) + 2).toNatClampNeg) = z0 at *; try generalize Int32.toInt (ct (0 : Int32).toNatClampNeg) = z1 at *; try generalize Int32.toInt ((6 * k) + 3) = z2 at *; try generalize Int32.toInt (6 * k) = z3 at *; try generalize Int32.toInt (0 : Int32) = z4 at *; try generalize Int32.toInt (3 : Int32) = z5 at *; try generalize Int32.toInt (6 : Int32) = z6 at *; try generalize Int32.toInt k = z7 at *; omega)
          refine va_iald hx hb hG.1 hP 1 2 rfl rfl b_15 dX9_compose_47 ?_
          refine lv_aload_n hx hb dX9_compose_48 rfl (lv_at hl 1 rfl) ?_
          refine va_get (D := (dC, dI)) (ci := 9) (v := .ref a0) (C := RX9) (T := TX9) (N := 17) hx hb hts inc_X9_compose_9 hown hG.1 hP 0 rfl rfl 1 (by decide) (hts (.fieldLink RX9 13 "MappingDeskModel" "rows" "[I") (by decide +kernel)) (fun _ h9 => h9) rfl dX9_compose_49 ?_
          refine lv_iload_n hx hb dX9_compose_52 rfl (lv_at hl 0 rfl) ?_
          refine lv_iconst (v := 4) hx hb dX9_compose_53 (by decide) ?_
          refine lv_iadd hx hb dX9_compose_54 ?_
          have b_25 : vp_in ((6 * k) + 4) 3600 := by
            have q_26 := i_nle c_5
            have k_27 : (0 : Int32).toInt = 0 := by decide
            have q_28 := i_le c_14
            have hq7 := hct (0 : Int32).toNatClampNeg (by decide)
            have k_29 : (6 : Int32).toInt = 6 := by decide
            have t_30 : ((6 * k)).toInt = 6 * (k).toInt := by
              have z := ti_mul (a := 6) (b := k) (by rw [show (6 : Int32).toInt = 6 from by decide]; omega) (by rw [show (6 : Int32).toInt = 6 from by decide]; omega)
              rw [z, show (6 : Int32).toInt = 6 from by decide]
            have k_31 : (4 : Int32).toInt = 4 := by decide
            have t_32 := ti_add (a := (6 * k)) (b := 4) (by omega) (by omega)
            refine vin ?_ ?_
            all_goals (try generalize Int32.toInt (rz ((6 * k) + 2).toNatClampNeg) = z0 at *; try generalize Int32.toInt (ct (0 : Int32).toNatClampNeg) = z1 at *; try generalize Int32.toInt ((6 * k) + 4) = z2 at *; try generalize Int32.toInt (6 * k) = z3 at *; try generalize Int32.toInt (0 : Int32) = z4 at *; try generalize Int32.toInt (4 : Int32) = z5 at *; try generalize Int32.toInt (6 : Int32) = z6 at *; try generalize Int32.toInt k = z7 at *; omega)
          refine va_iald hx hb hG.1 hP 1 2 rfl rfl b_25 dX9_compose_55 ?_
          have p_35 : 0 ≤ (1 : Int32).toInt := by
            have q_36 := i_nle c_5
            have k_37 : (0 : Int32).toInt = 0 := by decide
            have q_38 := i_le c_14
            have hq7 := hct (0 : Int32).toNatClampNeg (by decide)
            have k_39 : (1 : Int32).toInt = 1 := by decide
            try generalize Int32.toInt (rz ((6 * k) + 2).toNatClampNeg) = z0 at *
            try generalize Int32.toInt (ct (0 : Int32).toNatClampNeg) = z1 at *
            try generalize Int32.toInt (0 : Int32) = z2 at *
            try generalize Int32.toInt (1 : Int32) = z3 at *
            try generalize Int32.toInt k = z4 at *
            first | omega | exact ⟨by omega, by omega⟩
          have p_40 : (1 : Int32).toInt ≤ 1 := by
            have q_41 := i_nle c_5
            have k_42 : (0 : Int32).toInt = 0 := by decide
            have q_43 := i_le c_14
            have hq7 := hct (0 : Int32).toNatClampNeg (by decide)
            have k_44 : (1 : Int32).toInt = 1 := by decide
            try generalize Int32.toInt (rz ((6 * k) + 2).toNatClampNeg) = z0 at *
            try generalize Int32.toInt (ct (0 : Int32).toNatClampNeg) = z1 at *
            try generalize Int32.toInt (0 : Int32) = z2 at *
            try generalize Int32.toInt (1 : Int32) = z3 at *
            try generalize Int32.toInt k = z4 at *
            first | omega | exact ⟨by omega, by omega⟩
          have p_45 : ∀ j : Nat, j < 2 → 0 ≤ (ct j).toInt ∧ (ct j).toInt ≤ 300 := by
            exact hct
          have hPc := hP.sub (ws' := [(h0, .inr (9, [.int 0, .ref a0, .ref a1, .ref a2, .int dc, .ref a3, .int tl, .ref a4, .int xl, .int fo, .int fa, .ref a5, .int mn, .ref a6, .int ft, .ref a7, .int wl])), (a0, .inl (cI, 3600, .inl rz)), (a1, .inl (cI, 2, .inl ct))]) [0, 1, 2] rfl
          have hDc := hD.sub (ws' := [(h0, .inr (9, [.int 0, .ref a0, .ref a1, .ref a2, .int dc, .ref a3, .int tl, .ref a4, .int xl, .int fo, .int fa, .ref a5, .int mn, .ref a6, .int ft, .ref a7, .int wl])), (a0, .inl (cI, 3600, .inl rz)), (a1, .inl (cI, 2, .inl ct))]) [0, 1, 2] (by decide) rfl
          refine vp_callSi (va_Run.run (va_runV (As := [.int 1, .int (rz ((6 * k) + 3).toNatClampNeg), .int (rz ((6 * k) + 4).toNatClampNeg)]) (rest := []) ⟨hx, hb, hml, hown, hts⟩ (c_X9_segmentOf l dC dI cB cC cI cJ H.size h0 a0 a1 a2 a3 a4 a5 a6 a7 0 dc tl xl fo fa mn ft wl rz ct 1 (rz ((6 * k) + 3).toNatClampNeg) (rz ((6 * k) + 4).toNatClampNeg) p_35 p_40 p_45) (cwV 3 hts gX9_compose_X9_segmentOf rfl rfl rfl (by decide +kernel) ⟨(Nat.le_of_ble_eq_true rfl), (Nat.le_of_ble_eq_true rfl)⟩) ⟨cP_blind, va_recv hG.1 hPc (ci := 9) (q0 := 0) rfl rfl, cP_pre hPc hG hDc⟩ rfl rfl hl.1 rfl (lv_room (Nat.le_of_ble_eq_true rfl)) dX9_compose_56 ⟨Nat.le_of_ble_eq_true rfl, Nat.le_of_ble_eq_true rfl⟩)) (fun r_46 hr_46 => ?_)
          obtain ⟨hr_46, er_46_0⟩ := hr_46
          rw [← hr_46] at er_46_0
          rw [bnd_eq hr_46.symm] at hR
          refine lv_istore (lv' := [(4, .int r_46), (3, .int (6 * k)), (0, .ref h0), (1, .int te), (2, .int k)]) hx hb dX9_compose_59 hl (by decide) rfl (fun ls hl => ?_)
          refine lv_sipush (v := 1800) hx hb dX9_compose_61 (by decide) ?_
          refine lv_bipush (v := 6) hx hb dX9_compose_64 (by decide) ?_
          refine lv_iload hx hb dX9_compose_66 (lv_at hl 0 rfl) ?_
          refine lv_imul hx hb dX9_compose_68 ?_
          refine lv_iadd hx hb dX9_compose_69 ?_
          refine lv_istore (lv' := [(5, .int (1800 + (6 * r_46))), (4, .int r_46), (3, .int (6 * k)), (0, .ref h0), (1, .int te), (2, .int k)]) hx hb dX9_compose_70 hl (by decide) rfl (fun ls hl => ?_)
          refine lv_iload hx hb dX9_compose_72 (lv_at hl 1 rfl) ?_
          refine lv_if_lt (tgt := 89) hx hb dX9_compose_74 (by decide) (fun c_47 => ?_) (fun c_47 => ?_)
          · rw [if_pos c_47] at hR
            refine lv_aload_n hx hb dX9_compose_89 rfl (lv_at hl 3 rfl) ?_
            refine va_get (D := (dC, dI)) (ci := 9) (v := .ref a0) (C := RX9) (T := TX9) (N := 17) hx hb hts inc_X9_compose_9 hown hG.1 hP 0 rfl rfl 1 (by decide) (hts (.fieldLink RX9 13 "MappingDeskModel" "rows" "[I") (by decide +kernel)) (fun _ h9 => h9) rfl dX9_compose_90 ?_
            refine lv_iload_n hx hb dX9_compose_93 rfl (lv_at hl 2 rfl) ?_
            refine lv_iconst (v := 2) hx hb dX9_compose_94 (by decide) ?_
            refine lv_iadd hx hb dX9_compose_95 ?_
            refine lv_iconst (v := (-1)) hx hb dX9_compose_96 (by decide) ?_
            have b_48 : vp_in ((6 * k) + 2) 3600 := by
              have q_49 := i_nle c_5
              have k_50 : (0 : Int32).toInt = 0 := by decide
              have q_51 := i_le c_14
              have q_52 := i_lt c_47
              have hq7 := hct (0 : Int32).toNatClampNeg (by decide)
              have k_53 : (6 : Int32).toInt = 6 := by decide
              have t_54 : ((6 * k)).toInt = 6 * (k).toInt := by
                have z := ti_mul (a := 6) (b := k) (by rw [show (6 : Int32).toInt = 6 from by decide]; omega) (by rw [show (6 : Int32).toInt = 6 from by decide]; omega)
                rw [z, show (6 : Int32).toInt = 6 from by decide]
              have k_55 : (2 : Int32).toInt = 2 := by decide
              have t_56 := ti_add (a := (6 * k)) (b := 2) (by omega) (by omega)
              refine vin ?_ ?_
              all_goals (try generalize Int32.toInt (rz ((6 * k) + 2).toNatClampNeg) = z0 at *; try generalize Int32.toInt (ct (0 : Int32).toNatClampNeg) = z1 at *; try generalize Int32.toInt ((6 * k) + 2) = z2 at *; try generalize Int32.toInt (6 * k) = z3 at *; try generalize Int32.toInt r_46 = z4 at *; try generalize Int32.toInt (0 : Int32) = z5 at *; try generalize Int32.toInt (2 : Int32) = z6 at *; try generalize Int32.toInt (6 : Int32) = z7 at *; try generalize Int32.toInt k = z8 at *; omega)
            refine va_iast hx hb hG.1 hP hD hS 1 2 rfl rfl b_48 dX9_compose_97 (fun H locs hP hD hS => ?_)
            have hP : va_P (dC, dI) vwCl [(h0, .inr (9, [.int 0, .ref a0, .ref a1, .ref a2, .int dc, .ref a3, .int tl, .ref a4, .int xl, .int fo, .int fa, .ref a5, .int mn, .ref a6, .int ft, .ref a7, .int wl])), (a0, .inl (cI, 3600, .inl (upd rz ((6 * k) + 2).toNatClampNeg (-1)))), (a1, .inl (cI, 2, .inl ct))] H := hP
            have hD : va_D A [(h0, .inr (9, [.int 0, .ref a0, .ref a1, .ref a2, .int dc, .ref a3, .int tl, .ref a4, .int xl, .int fo, .int fa, .ref a5, .int mn, .ref a6, .int ft, .ref a7, .int wl])), (a0, .inl (cI, 3600, .inl (upd rz ((6 * k) + 2).toNatClampNeg (-1)))), (a1, .inl (cI, 2, .inl ct))] := hD
            refine lv_aload_n hx hb dX9_compose_98 rfl (lv_at hl 3 rfl) ?_
            refine va_get (D := (dC, dI)) (ci := 9) (v := .ref a0) (C := RX9) (T := TX9) (N := 17) hx hb hts inc_X9_compose_9 hown hG.1 hP 0 rfl rfl 1 (by decide) (hts (.fieldLink RX9 13 "MappingDeskModel" "rows" "[I") (by decide +kernel)) (fun _ h9 => h9) rfl dX9_compose_99 ?_
            refine lv_iload_n hx hb dX9_compose_102 rfl (lv_at hl 2 rfl) ?_
            refine lv_iconst (v := 3) hx hb dX9_compose_103 (by decide) ?_
            refine lv_iadd hx hb dX9_compose_104 ?_
            refine lv_iconst (v := 0) hx hb dX9_compose_105 (by decide) ?_
            have b_59 : vp_in ((6 * k) + 3) 3600 := by
              have q_60 := i_nle c_5
              have k_61 : (0 : Int32).toInt = 0 := by decide
              have q_62 := i_le c_14
              have q_63 := i_lt c_47
              have hq7 := hct (0 : Int32).toNatClampNeg (by decide)
              have k_64 : (6 : Int32).toInt = 6 := by decide
              have t_65 : ((6 * k)).toInt = 6 * (k).toInt := by
                have z := ti_mul (a := 6) (b := k) (by rw [show (6 : Int32).toInt = 6 from by decide]; omega) (by rw [show (6 : Int32).toInt = 6 from by decide]; omega)
                rw [z, show (6 : Int32).toInt = 6 from by decide]
              have k_66 : (3 : Int32).toInt = 3 := by decide
              have t_67 := ti_add (a := (6 * k)) (b := 3) (by omega) (by omega)
              refine vin ?_ ?_
              all_goals (try generalize Int32.toInt (rz ((6 * k) + 2).toNatClampNeg) = z0 at *; try generalize Int32.toInt (ct (0 : Int32).toNatClampNeg) = z1 at *; try generalize Int32.toInt ((6 * k) + 3) = z2 at *; try generalize Int32.toInt (6 * k) = z3 at *; try generalize Int32.toInt r_46 = z4 at *; try generalize Int32.toInt (0 : Int32) = z5 at *; try generalize Int32.toInt (3 : Int32) = z6 at *; try generalize Int32.toInt (6 : Int32) = z7 at *; try generalize Int32.toInt k = z8 at *; omega)
            refine va_iast hx hb hG.1 hP hD hS 1 2 rfl rfl b_59 dX9_compose_106 (fun H locs hP hD hS => ?_)
            have hP : va_P (dC, dI) vwCl [(h0, .inr (9, [.int 0, .ref a0, .ref a1, .ref a2, .int dc, .ref a3, .int tl, .ref a4, .int xl, .int fo, .int fa, .ref a5, .int mn, .ref a6, .int ft, .ref a7, .int wl])), (a0, .inl (cI, 3600, .inl (upd (upd rz ((6 * k) + 2).toNatClampNeg (-1)) ((6 * k) + 3).toNatClampNeg 0))), (a1, .inl (cI, 2, .inl ct))] H := hP
            have hD : va_D A [(h0, .inr (9, [.int 0, .ref a0, .ref a1, .ref a2, .int dc, .ref a3, .int tl, .ref a4, .int xl, .int fo, .int fa, .ref a5, .int mn, .ref a6, .int ft, .ref a7, .int wl])), (a0, .inl (cI, 3600, .inl (upd (upd rz ((6 * k) + 2).toNatClampNeg (-1)) ((6 * k) + 3).toNatClampNeg 0))), (a1, .inl (cI, 2, .inl ct))] := hD
            refine lv_aload_n hx hb dX9_compose_107 rfl (lv_at hl 3 rfl) ?_
            refine va_get (D := (dC, dI)) (ci := 9) (v := .ref a0) (C := RX9) (T := TX9) (N := 17) hx hb hts inc_X9_compose_9 hown hG.1 hP 0 rfl rfl 1 (by decide) (hts (.fieldLink RX9 13 "MappingDeskModel" "rows" "[I") (by decide +kernel)) (fun _ h9 => h9) rfl dX9_compose_108 ?_
            refine lv_iload_n hx hb dX9_compose_111 rfl (lv_at hl 2 rfl) ?_
            refine lv_iconst (v := 4) hx hb dX9_compose_112 (by decide) ?_
            refine lv_iadd hx hb dX9_compose_113 ?_
            refine lv_iconst (v := 0) hx hb dX9_compose_114 (by decide) ?_
            have b_70 : vp_in ((6 * k) + 4) 3600 := by
              have q_71 := i_nle c_5
              have k_72 : (0 : Int32).toInt = 0 := by decide
              have q_73 := i_le c_14
              have q_74 := i_lt c_47
              have hq7 := hct (0 : Int32).toNatClampNeg (by decide)
              have k_75 : (6 : Int32).toInt = 6 := by decide
              have t_76 : ((6 * k)).toInt = 6 * (k).toInt := by
                have z := ti_mul (a := 6) (b := k) (by rw [show (6 : Int32).toInt = 6 from by decide]; omega) (by rw [show (6 : Int32).toInt = 6 from by decide]; omega)
                rw [z, show (6 : Int32).toInt = 6 from by decide]
              have k_77 : (4 : Int32).toInt = 4 := by decide
              have t_78 := ti_add (a := (6 * k)) (b := 4) (by omega) (by omega)
              refine vin ?_ ?_
              all_goals (try generalize Int32.toInt (rz ((6 * k) + 2).toNatClampNeg) = z0 at *; try generalize Int32.toInt (ct (0 : Int32).toNatClampNeg) = z1 at *; try generalize Int32.toInt ((6 * k) + 4) = z2 at *; try generalize Int32.toInt (6 * k) = z3 at *; try generalize Int32.toInt r_46 = z4 at *; try generalize Int32.toInt (0 : Int32) = z5 at *; try generalize Int32.toInt (4 : Int32) = z6 at *; try generalize Int32.toInt (6 : Int32) = z7 at *; try generalize Int32.toInt k = z8 at *; omega)
            refine va_iast hx hb hG.1 hP hD hS 1 2 rfl rfl b_70 dX9_compose_115 (fun H locs hP hD hS => ?_)
            have hP : va_P (dC, dI) vwCl [(h0, .inr (9, [.int 0, .ref a0, .ref a1, .ref a2, .int dc, .ref a3, .int tl, .ref a4, .int xl, .int fo, .int fa, .ref a5, .int mn, .ref a6, .int ft, .ref a7, .int wl])), (a0, .inl (cI, 3600, .inl (upd (upd (upd rz ((6 * k) + 2).toNatClampNeg (-1)) ((6 * k) + 3).toNatClampNeg 0) ((6 * k) + 4).toNatClampNeg 0))), (a1, .inl (cI, 2, .inl ct))] H := hP
            have hD : va_D A [(h0, .inr (9, [.int 0, .ref a0, .ref a1, .ref a2, .int dc, .ref a3, .int tl, .ref a4, .int xl, .int fo, .int fa, .ref a5, .int mn, .ref a6, .int ft, .ref a7, .int wl])), (a0, .inl (cI, 3600, .inl (upd (upd (upd rz ((6 * k) + 2).toNatClampNeg (-1)) ((6 * k) + 3).toNatClampNeg 0) ((6 * k) + 4).toNatClampNeg 0))), (a1, .inl (cI, 2, .inl ct))] := hD
            refine lv_aload_n hx hb dX9_compose_116 rfl (lv_at hl 3 rfl) ?_
            refine va_get (D := (dC, dI)) (ci := 9) (v := .ref a0) (C := RX9) (T := TX9) (N := 17) hx hb hts inc_X9_compose_9 hown hG.1 hP 0 rfl rfl 1 (by decide) (hts (.fieldLink RX9 13 "MappingDeskModel" "rows" "[I") (by decide +kernel)) (fun _ h9 => h9) rfl dX9_compose_117 ?_
            refine lv_iload_n hx hb dX9_compose_120 rfl (lv_at hl 2 rfl) ?_
            refine lv_iconst (v := 5) hx hb dX9_compose_121 (by decide) ?_
            refine lv_iadd hx hb dX9_compose_122 ?_
            refine lv_iconst (v := (-1)) hx hb dX9_compose_123 (by decide) ?_
            have b_81 : vp_in ((6 * k) + 5) 3600 := by
              have q_82 := i_nle c_5
              have k_83 : (0 : Int32).toInt = 0 := by decide
              have q_84 := i_le c_14
              have q_85 := i_lt c_47
              have hq7 := hct (0 : Int32).toNatClampNeg (by decide)
              have k_86 : (6 : Int32).toInt = 6 := by decide
              have t_87 : ((6 * k)).toInt = 6 * (k).toInt := by
                have z := ti_mul (a := 6) (b := k) (by rw [show (6 : Int32).toInt = 6 from by decide]; omega) (by rw [show (6 : Int32).toInt = 6 from by decide]; omega)
                rw [z, show (6 : Int32).toInt = 6 from by decide]
              have k_88 : (5 : Int32).toInt = 5 := by decide
              have t_89 := ti_add (a := (6 * k)) (b := 5) (by omega) (by omega)
              refine vin ?_ ?_
              all_goals (try generalize Int32.toInt (rz ((6 * k) + 2).toNatClampNeg) = z0 at *; try generalize Int32.toInt (ct (0 : Int32).toNatClampNeg) = z1 at *; try generalize Int32.toInt ((6 * k) + 5) = z2 at *; try generalize Int32.toInt (6 * k) = z3 at *; try generalize Int32.toInt r_46 = z4 at *; try generalize Int32.toInt (0 : Int32) = z5 at *; try generalize Int32.toInt (5 : Int32) = z6 at *; try generalize Int32.toInt (6 : Int32) = z7 at *; try generalize Int32.toInt k = z8 at *; omega)
            refine va_iast hx hb hG.1 hP hD hS 1 2 rfl rfl b_81 dX9_compose_124 (fun H locs hP hD hS => ?_)
            have hP : va_P (dC, dI) vwCl [(h0, .inr (9, [.int 0, .ref a0, .ref a1, .ref a2, .int dc, .ref a3, .int tl, .ref a4, .int xl, .int fo, .int fa, .ref a5, .int mn, .ref a6, .int ft, .ref a7, .int wl])), (a0, .inl (cI, 3600, .inl (upd (upd (upd (upd rz ((6 * k) + 2).toNatClampNeg (-1)) ((6 * k) + 3).toNatClampNeg 0) ((6 * k) + 4).toNatClampNeg 0) ((6 * k) + 5).toNatClampNeg (-1)))), (a1, .inl (cI, 2, .inl ct))] H := hP
            have hD : va_D A [(h0, .inr (9, [.int 0, .ref a0, .ref a1, .ref a2, .int dc, .ref a3, .int tl, .ref a4, .int xl, .int fo, .int fa, .ref a5, .int mn, .ref a6, .int ft, .ref a7, .int wl])), (a0, .inl (cI, 3600, .inl (upd (upd (upd (upd rz ((6 * k) + 2).toNatClampNeg (-1)) ((6 * k) + 3).toNatClampNeg 0) ((6 * k) + 4).toNatClampNeg 0) ((6 * k) + 5).toNatClampNeg (-1)))), (a1, .inl (cI, 2, .inl ct))] := hD
            refine lv_goto (tgt := 210) hx hb dX9_compose_125 (by decide) ?_
            refine lv_iinc (v := (k + 1)) (lv' := [(2, .int (k + 1)), (5, .int (1800 + (6 * r_46))), (4, .int r_46), (3, .int (6 * k)), (0, .ref h0), (1, .int te)]) hx hb dX9_compose_210 hl (k := 5) rfl rfl (by decide) rfl (fun ls hl => ?_)
            refine lv_goto (tgt := 9) hx hb dX9_compose_213 (by decide) ?_
            have v_96 : 0 ≤ ((k + 1)).toInt := by
              have q_97 := i_nle c_5
              have k_98 : (0 : Int32).toInt = 0 := by decide
              have q_99 := i_le c_14
              have q_100 := i_lt c_47
              have hq7 := hct (0 : Int32).toNatClampNeg (by decide)
              have k_101 : (1 : Int32).toInt = 1 := by decide
              have t_102 := ti_add (a := k) (b := 1) (by omega) (by omega)
              try generalize Int32.toInt (rz ((6 * k) + 2).toNatClampNeg) = z0 at *
              try generalize Int32.toInt (ct (0 : Int32).toNatClampNeg) = z1 at *
              try generalize Int32.toInt (k + 1) = z2 at *
              try generalize Int32.toInt r_46 = z3 at *
              try generalize Int32.toInt (0 : Int32) = z4 at *
              try generalize Int32.toInt (1 : Int32) = z5 at *
              try generalize Int32.toInt k = z6 at *
              omega
            have v_103 : ((k + 1)).toInt ≤ (ct (0 : Int32).toNatClampNeg).toInt := by
              have q_104 := i_nle c_5
              have k_105 : (0 : Int32).toInt = 0 := by decide
              have q_106 := i_le c_14
              have q_107 := i_lt c_47
              have hq7 := hct (0 : Int32).toNatClampNeg (by decide)
              have k_108 : (1 : Int32).toInt = 1 := by decide
              have t_109 := ti_add (a := k) (b := 1) (by omega) (by omega)
              try generalize Int32.toInt (rz ((6 * k) + 2).toNatClampNeg) = z0 at *
              try generalize Int32.toInt (ct (0 : Int32).toNatClampNeg) = z1 at *
              try generalize Int32.toInt (k + 1) = z2 at *
              try generalize Int32.toInt r_46 = z3 at *
              try generalize Int32.toInt (0 : Int32) = z4 at *
              try generalize Int32.toInt (1 : Int32) = z5 at *
              try generalize Int32.toInt k = z6 at *
              omega
            have v_110 : (ct (0 : Int32).toNatClampNeg).toInt - ((k + 1)).toInt < ((n : Nat) : Int) := by
              have q_111 := i_nle c_5
              have k_112 : (0 : Int32).toInt = 0 := by decide
              have q_113 := i_le c_14
              have q_114 := i_lt c_47
              have hq7 := hct (0 : Int32).toNatClampNeg (by decide)
              have k_115 : (1 : Int32).toInt = 1 := by decide
              have t_116 := ti_add (a := k) (b := 1) (by omega) (by omega)
              try generalize Int32.toInt (rz ((6 * k) + 2).toNatClampNeg) = z0 at *
              try generalize Int32.toInt (ct (0 : Int32).toNatClampNeg) = z1 at *
              try generalize Int32.toInt (k + 1) = z2 at *
              try generalize Int32.toInt r_46 = z3 at *
              try generalize Int32.toInt (0 : Int32) = z4 at *
              try generalize Int32.toInt (1 : Int32) = z5 at *
              try generalize Int32.toInt k = z6 at *
              omega
            exact ih (te) ((k + 1)) ((upd (upd (upd (upd rz ((6 * k) + 2).toNatClampNeg (-1)) ((6 * k) + 3).toNatClampNeg 0) ((6 * k) + 4).toNatClampNeg 0) ((6 * k) + 5).toNatClampNeg (-1))) _ _ ls hR v_96 v_103 v_110 hP hD hS (lv_sub hl [4, 5, 0] rfl)
          · rw [if_neg c_47] at hR
            refine lv_aload_n hx hb dX9_compose_77 rfl (lv_at hl 3 rfl) ?_
            refine va_get (D := (dC, dI)) (ci := 9) (v := .ref a0) (C := RX9) (T := TX9) (N := 17) hx hb hts inc_X9_compose_9 hown hG.1 hP 0 rfl rfl 1 (by decide) (hts (.fieldLink RX9 13 "MappingDeskModel" "rows" "[I") (by decide +kernel)) (fun _ h9 => h9) rfl dX9_compose_78 ?_
            refine lv_iload hx hb dX9_compose_81 (lv_at hl 0 rfl) ?_
            refine lv_iconst (v := 2) hx hb dX9_compose_83 (by decide) ?_
            refine lv_iadd hx hb dX9_compose_84 ?_
            have b_117 : vp_in ((1800 + (6 * r_46)) + 2) 3600 := by
              have q_118 := i_nle c_5
              have k_119 : (0 : Int32).toInt = 0 := by decide
              have q_120 := i_le c_14
              have q_121 := i_nlt c_47
              have hq7 := hct (0 : Int32).toNatClampNeg (by decide)
              have k_122 : (1800 : Int32).toInt = 1800 := by decide
              have k_123 : (6 : Int32).toInt = 6 := by decide
              have t_124 : ((6 * r_46)).toInt = 6 * (r_46).toInt := by
                have z := ti_mul (a := 6) (b := r_46) (by rw [show (6 : Int32).toInt = 6 from by decide]; omega) (by rw [show (6 : Int32).toInt = 6 from by decide]; omega)
                rw [z, show (6 : Int32).toInt = 6 from by decide]
              have t_125 := ti_add (a := 1800) (b := (6 * r_46)) (by omega) (by omega)
              have k_126 : (2 : Int32).toInt = 2 := by decide
              have t_127 := ti_add (a := (1800 + (6 * r_46))) (b := 2) (by omega) (by omega)
              refine vin ?_ ?_
              all_goals (try generalize Int32.toInt (rz ((6 * k) + 2).toNatClampNeg) = z0 at *; try generalize Int32.toInt (ct (0 : Int32).toNatClampNeg) = z1 at *; try generalize Int32.toInt ((1800 + (6 * r_46)) + 2) = z2 at *; try generalize Int32.toInt (1800 + (6 * r_46)) = z3 at *; try generalize Int32.toInt (6 * r_46) = z4 at *; try generalize Int32.toInt (1800 : Int32) = z5 at *; try generalize Int32.toInt r_46 = z6 at *; try generalize Int32.toInt (0 : Int32) = z7 at *; try generalize Int32.toInt (2 : Int32) = z8 at *; try generalize Int32.toInt (6 : Int32) = z9 at *; try generalize Int32.toInt k = z10 at *; omega)
            refine va_iald hx hb hG.1 hP 1 2 rfl rfl b_117 dX9_compose_85 ?_
            refine lv_if_ge (tgt := 128) hx hb dX9_compose_86 (by decide) (fun c_130 => ?_) (fun c_130 => ?_)
            · rw [if_pos c_130] at hR
              refine lv_aload_n hx hb dX9_compose_128 rfl (lv_at hl 3 rfl) ?_
              refine va_get (D := (dC, dI)) (ci := 9) (v := .ref a0) (C := RX9) (T := TX9) (N := 17) hx hb hts inc_X9_compose_9 hown hG.1 hP 0 rfl rfl 1 (by decide) (hts (.fieldLink RX9 13 "MappingDeskModel" "rows" "[I") (by decide +kernel)) (fun _ h9 => h9) rfl dX9_compose_129 ?_
              refine lv_iload_n hx hb dX9_compose_132 rfl (lv_at hl 2 rfl) ?_
              refine lv_iconst (v := 2) hx hb dX9_compose_133 (by decide) ?_
              refine lv_iadd hx hb dX9_compose_134 ?_
              refine lv_aload_n hx hb dX9_compose_135 rfl (lv_at hl 3 rfl) ?_
              refine va_get (D := (dC, dI)) (ci := 9) (v := .ref a0) (C := RX9) (T := TX9) (N := 17) hx hb hts inc_X9_compose_9 hown hG.1 hP 0 rfl rfl 1 (by decide) (hts (.fieldLink RX9 13 "MappingDeskModel" "rows" "[I") (by decide +kernel)) (fun _ h9 => h9) rfl dX9_compose_136 ?_
              refine lv_iload hx hb dX9_compose_139 (lv_at hl 0 rfl) ?_
              refine lv_iconst (v := 2) hx hb dX9_compose_141 (by decide) ?_
              refine lv_iadd hx hb dX9_compose_142 ?_
              have b_131 : vp_in ((1800 + (6 * r_46)) + 2) 3600 := by
                have q_132 := i_nle c_5
                have k_133 : (0 : Int32).toInt = 0 := by decide
                have q_134 := i_le c_14
                have q_135 := i_nlt c_47
                have q_136 := i_le c_130
                have hq7 := hct (0 : Int32).toNatClampNeg (by decide)
                have k_137 : (1800 : Int32).toInt = 1800 := by decide
                have k_138 : (6 : Int32).toInt = 6 := by decide
                have t_139 : ((6 * r_46)).toInt = 6 * (r_46).toInt := by
                  have z := ti_mul (a := 6) (b := r_46) (by rw [show (6 : Int32).toInt = 6 from by decide]; omega) (by rw [show (6 : Int32).toInt = 6 from by decide]; omega)
                  rw [z, show (6 : Int32).toInt = 6 from by decide]
                have t_140 := ti_add (a := 1800) (b := (6 * r_46)) (by omega) (by omega)
                have k_141 : (2 : Int32).toInt = 2 := by decide
                have t_142 := ti_add (a := (1800 + (6 * r_46))) (b := 2) (by omega) (by omega)
                refine vin ?_ ?_
                all_goals (try generalize Int32.toInt (rz ((1800 + (6 * r_46)) + 2).toNatClampNeg) = z0 at *; try generalize Int32.toInt (rz ((6 * k) + 2).toNatClampNeg) = z1 at *; try generalize Int32.toInt (ct (0 : Int32).toNatClampNeg) = z2 at *; try generalize Int32.toInt ((1800 + (6 * r_46)) + 2) = z3 at *; try generalize Int32.toInt (1800 + (6 * r_46)) = z4 at *; try generalize Int32.toInt (6 * r_46) = z5 at *; try generalize Int32.toInt (1800 : Int32) = z6 at *; try generalize Int32.toInt r_46 = z7 at *; try generalize Int32.toInt (0 : Int32) = z8 at *; try generalize Int32.toInt (2 : Int32) = z9 at *; try generalize Int32.toInt (6 : Int32) = z10 at *; try generalize Int32.toInt k = z11 at *; omega)
              refine va_iald hx hb hG.1 hP 1 2 rfl rfl b_131 dX9_compose_143 ?_
              have b_145 : vp_in ((6 * k) + 2) 3600 := by
                have q_146 := i_nle c_5
                have k_147 : (0 : Int32).toInt = 0 := by decide
                have q_148 := i_le c_14
                have q_149 := i_nlt c_47
                have q_150 := i_le c_130
                have hq7 := hct (0 : Int32).toNatClampNeg (by decide)
                have k_151 : (6 : Int32).toInt = 6 := by decide
                have t_152 : ((6 * k)).toInt = 6 * (k).toInt := by
                  have z := ti_mul (a := 6) (b := k) (by rw [show (6 : Int32).toInt = 6 from by decide]; omega) (by rw [show (6 : Int32).toInt = 6 from by decide]; omega)
                  rw [z, show (6 : Int32).toInt = 6 from by decide]
                have k_153 : (2 : Int32).toInt = 2 := by decide
                have t_154 := ti_add (a := (6 * k)) (b := 2) (by omega) (by omega)
                refine vin ?_ ?_
                all_goals (try generalize Int32.toInt (rz ((1800 + (6 * r_46)) + 2).toNatClampNeg) = z0 at *; try generalize Int32.toInt (rz ((6 * k) + 2).toNatClampNeg) = z1 at *; try generalize Int32.toInt (ct (0 : Int32).toNatClampNeg) = z2 at *; try generalize Int32.toInt ((6 * k) + 2) = z3 at *; try generalize Int32.toInt (6 * k) = z4 at *; try generalize Int32.toInt r_46 = z5 at *; try generalize Int32.toInt (0 : Int32) = z6 at *; try generalize Int32.toInt (2 : Int32) = z7 at *; try generalize Int32.toInt (6 : Int32) = z8 at *; try generalize Int32.toInt k = z9 at *; omega)
              refine va_iast hx hb hG.1 hP hD hS 1 2 rfl rfl b_145 dX9_compose_144 (fun H locs hP hD hS => ?_)
              have hP : va_P (dC, dI) vwCl [(h0, .inr (9, [.int 0, .ref a0, .ref a1, .ref a2, .int dc, .ref a3, .int tl, .ref a4, .int xl, .int fo, .int fa, .ref a5, .int mn, .ref a6, .int ft, .ref a7, .int wl])), (a0, .inl (cI, 3600, .inl (upd rz ((6 * k) + 2).toNatClampNeg (rz ((1800 + (6 * r_46)) + 2).toNatClampNeg)))), (a1, .inl (cI, 2, .inl ct))] H := hP
              have hD : va_D A [(h0, .inr (9, [.int 0, .ref a0, .ref a1, .ref a2, .int dc, .ref a3, .int tl, .ref a4, .int xl, .int fo, .int fa, .ref a5, .int mn, .ref a6, .int ft, .ref a7, .int wl])), (a0, .inl (cI, 3600, .inl (upd rz ((6 * k) + 2).toNatClampNeg (rz ((1800 + (6 * r_46)) + 2).toNatClampNeg)))), (a1, .inl (cI, 2, .inl ct))] := hD
              refine lv_aload_n hx hb dX9_compose_145 rfl (lv_at hl 3 rfl) ?_
              refine va_get (D := (dC, dI)) (ci := 9) (v := .ref a0) (C := RX9) (T := TX9) (N := 17) hx hb hts inc_X9_compose_9 hown hG.1 hP 0 rfl rfl 1 (by decide) (hts (.fieldLink RX9 13 "MappingDeskModel" "rows" "[I") (by decide +kernel)) (fun _ h9 => h9) rfl dX9_compose_146 ?_
              refine lv_iload_n hx hb dX9_compose_149 rfl (lv_at hl 2 rfl) ?_
              refine lv_iconst (v := 3) hx hb dX9_compose_150 (by decide) ?_
              refine lv_iadd hx hb dX9_compose_151 ?_
              refine lv_aload_n hx hb dX9_compose_152 rfl (lv_at hl 3 rfl) ?_
              refine va_get (D := (dC, dI)) (ci := 9) (v := .ref a0) (C := RX9) (T := TX9) (N := 17) hx hb hts inc_X9_compose_9 hown hG.1 hP 0 rfl rfl 1 (by decide) (hts (.fieldLink RX9 13 "MappingDeskModel" "rows" "[I") (by decide +kernel)) (fun _ h9 => h9) rfl dX9_compose_153 ?_
              refine lv_iload hx hb dX9_compose_156 (lv_at hl 0 rfl) ?_
              refine lv_iconst (v := 3) hx hb dX9_compose_158 (by decide) ?_
              refine lv_iadd hx hb dX9_compose_159 ?_
              have b_157 : vp_in ((1800 + (6 * r_46)) + 3) 3600 := by
                have q_158 := i_nle c_5
                have k_159 : (0 : Int32).toInt = 0 := by decide
                have q_160 := i_le c_14
                have q_161 := i_nlt c_47
                have q_162 := i_le c_130
                have hq7 := hct (0 : Int32).toNatClampNeg (by decide)
                have k_163 : (1800 : Int32).toInt = 1800 := by decide
                have k_164 : (6 : Int32).toInt = 6 := by decide
                have t_165 : ((6 * r_46)).toInt = 6 * (r_46).toInt := by
                  have z := ti_mul (a := 6) (b := r_46) (by rw [show (6 : Int32).toInt = 6 from by decide]; omega) (by rw [show (6 : Int32).toInt = 6 from by decide]; omega)
                  rw [z, show (6 : Int32).toInt = 6 from by decide]
                have t_166 := ti_add (a := 1800) (b := (6 * r_46)) (by omega) (by omega)
                have k_167 : (3 : Int32).toInt = 3 := by decide
                have t_168 := ti_add (a := (1800 + (6 * r_46))) (b := 3) (by omega) (by omega)
                refine vin ?_ ?_
                all_goals (try generalize Int32.toInt (rz ((1800 + (6 * r_46)) + 2).toNatClampNeg) = z0 at *; try generalize Int32.toInt (rz ((6 * k) + 2).toNatClampNeg) = z1 at *; try generalize Int32.toInt (ct (0 : Int32).toNatClampNeg) = z2 at *; try generalize Int32.toInt ((1800 + (6 * r_46)) + 3) = z3 at *; try generalize Int32.toInt (1800 + (6 * r_46)) = z4 at *; try generalize Int32.toInt (6 * r_46) = z5 at *; try generalize Int32.toInt (1800 : Int32) = z6 at *; try generalize Int32.toInt r_46 = z7 at *; try generalize Int32.toInt (0 : Int32) = z8 at *; try generalize Int32.toInt (3 : Int32) = z9 at *; try generalize Int32.toInt (6 : Int32) = z10 at *; try generalize Int32.toInt k = z11 at *; omega)
              refine va_iald hx hb hG.1 hP 1 2 rfl rfl b_157 dX9_compose_160 ?_
              have b_171 : vp_in ((6 * k) + 3) 3600 := by
                have q_172 := i_nle c_5
                have k_173 : (0 : Int32).toInt = 0 := by decide
                have q_174 := i_le c_14
                have q_175 := i_nlt c_47
                have q_176 := i_le c_130
                have hq7 := hct (0 : Int32).toNatClampNeg (by decide)
                have k_177 : (6 : Int32).toInt = 6 := by decide
                have t_178 : ((6 * k)).toInt = 6 * (k).toInt := by
                  have z := ti_mul (a := 6) (b := k) (by rw [show (6 : Int32).toInt = 6 from by decide]; omega) (by rw [show (6 : Int32).toInt = 6 from by decide]; omega)
                  rw [z, show (6 : Int32).toInt = 6 from by decide]
                have k_179 : (3 : Int32).toInt = 3 := by decide
                have t_180 := ti_add (a := (6 * k)) (b := 3) (by omega) (by omega)
                refine vin ?_ ?_
                all_goals (try generalize Int32.toInt (rz ((1800 + (6 * r_46)) + 2).toNatClampNeg) = z0 at *; try generalize Int32.toInt (rz ((6 * k) + 2).toNatClampNeg) = z1 at *; try generalize Int32.toInt (ct (0 : Int32).toNatClampNeg) = z2 at *; try generalize Int32.toInt ((6 * k) + 3) = z3 at *; try generalize Int32.toInt (6 * k) = z4 at *; try generalize Int32.toInt r_46 = z5 at *; try generalize Int32.toInt (0 : Int32) = z6 at *; try generalize Int32.toInt (3 : Int32) = z7 at *; try generalize Int32.toInt (6 : Int32) = z8 at *; try generalize Int32.toInt k = z9 at *; omega)
              refine va_iast hx hb hG.1 hP hD hS 1 2 rfl rfl b_171 dX9_compose_161 (fun H locs hP hD hS => ?_)
              have hP : va_P (dC, dI) vwCl [(h0, .inr (9, [.int 0, .ref a0, .ref a1, .ref a2, .int dc, .ref a3, .int tl, .ref a4, .int xl, .int fo, .int fa, .ref a5, .int mn, .ref a6, .int ft, .ref a7, .int wl])), (a0, .inl (cI, 3600, .inl (upd (upd rz ((6 * k) + 2).toNatClampNeg (rz ((1800 + (6 * r_46)) + 2).toNatClampNeg)) ((6 * k) + 3).toNatClampNeg ((upd rz ((6 * k) + 2).toNatClampNeg (rz ((1800 + (6 * r_46)) + 2).toNatClampNeg)) ((1800 + (6 * r_46)) + 3).toNatClampNeg)))), (a1, .inl (cI, 2, .inl ct))] H := hP
              have hD : va_D A [(h0, .inr (9, [.int 0, .ref a0, .ref a1, .ref a2, .int dc, .ref a3, .int tl, .ref a4, .int xl, .int fo, .int fa, .ref a5, .int mn, .ref a6, .int ft, .ref a7, .int wl])), (a0, .inl (cI, 3600, .inl (upd (upd rz ((6 * k) + 2).toNatClampNeg (rz ((1800 + (6 * r_46)) + 2).toNatClampNeg)) ((6 * k) + 3).toNatClampNeg ((upd rz ((6 * k) + 2).toNatClampNeg (rz ((1800 + (6 * r_46)) + 2).toNatClampNeg)) ((1800 + (6 * r_46)) + 3).toNatClampNeg)))), (a1, .inl (cI, 2, .inl ct))] := hD
              refine lv_aload_n hx hb dX9_compose_162 rfl (lv_at hl 3 rfl) ?_
              refine va_get (D := (dC, dI)) (ci := 9) (v := .ref a0) (C := RX9) (T := TX9) (N := 17) hx hb hts inc_X9_compose_9 hown hG.1 hP 0 rfl rfl 1 (by decide) (hts (.fieldLink RX9 13 "MappingDeskModel" "rows" "[I") (by decide +kernel)) (fun _ h9 => h9) rfl dX9_compose_163 ?_
              refine lv_iload_n hx hb dX9_compose_166 rfl (lv_at hl 2 rfl) ?_
              refine lv_iconst (v := 4) hx hb dX9_compose_167 (by decide) ?_
              refine lv_iadd hx hb dX9_compose_168 ?_
              refine lv_aload_n hx hb dX9_compose_169 rfl (lv_at hl 3 rfl) ?_
              refine va_get (D := (dC, dI)) (ci := 9) (v := .ref a0) (C := RX9) (T := TX9) (N := 17) hx hb hts inc_X9_compose_9 hown hG.1 hP 0 rfl rfl 1 (by decide) (hts (.fieldLink RX9 13 "MappingDeskModel" "rows" "[I") (by decide +kernel)) (fun _ h9 => h9) rfl dX9_compose_170 ?_
              refine lv_iload hx hb dX9_compose_173 (lv_at hl 0 rfl) ?_
              refine lv_iconst (v := 4) hx hb dX9_compose_175 (by decide) ?_
              refine lv_iadd hx hb dX9_compose_176 ?_
              have b_183 : vp_in ((1800 + (6 * r_46)) + 4) 3600 := by
                have q_184 := i_nle c_5
                have k_185 : (0 : Int32).toInt = 0 := by decide
                have q_186 := i_le c_14
                have q_187 := i_nlt c_47
                have q_188 := i_le c_130
                have hq7 := hct (0 : Int32).toNatClampNeg (by decide)
                have k_189 : (1800 : Int32).toInt = 1800 := by decide
                have k_190 : (6 : Int32).toInt = 6 := by decide
                have t_191 : ((6 * r_46)).toInt = 6 * (r_46).toInt := by
                  have z := ti_mul (a := 6) (b := r_46) (by rw [show (6 : Int32).toInt = 6 from by decide]; omega) (by rw [show (6 : Int32).toInt = 6 from by decide]; omega)
                  rw [z, show (6 : Int32).toInt = 6 from by decide]
                have t_192 := ti_add (a := 1800) (b := (6 * r_46)) (by omega) (by omega)
                have k_193 : (4 : Int32).toInt = 4 := by decide
                have t_194 := ti_add (a := (1800 + (6 * r_46))) (b := 4) (by omega) (by omega)
                refine vin ?_ ?_
                all_goals (try generalize Int32.toInt (rz ((1800 + (6 * r_46)) + 2).toNatClampNeg) = z0 at *; try generalize Int32.toInt (rz ((6 * k) + 2).toNatClampNeg) = z1 at *; try generalize Int32.toInt (ct (0 : Int32).toNatClampNeg) = z2 at *; try generalize Int32.toInt ((1800 + (6 * r_46)) + 4) = z3 at *; try generalize Int32.toInt (1800 + (6 * r_46)) = z4 at *; try generalize Int32.toInt (6 * r_46) = z5 at *; try generalize Int32.toInt (1800 : Int32) = z6 at *; try generalize Int32.toInt r_46 = z7 at *; try generalize Int32.toInt (0 : Int32) = z8 at *; try generalize Int32.toInt (4 : Int32) = z9 at *; try generalize Int32.toInt (6 : Int32) = z10 at *; try generalize Int32.toInt k = z11 at *; omega)
              refine va_iald hx hb hG.1 hP 1 2 rfl rfl b_183 dX9_compose_177 ?_
              have b_197 : vp_in ((6 * k) + 4) 3600 := by
                have q_198 := i_nle c_5
                have k_199 : (0 : Int32).toInt = 0 := by decide
                have q_200 := i_le c_14
                have q_201 := i_nlt c_47
                have q_202 := i_le c_130
                have hq7 := hct (0 : Int32).toNatClampNeg (by decide)
                have k_203 : (6 : Int32).toInt = 6 := by decide
                have t_204 : ((6 * k)).toInt = 6 * (k).toInt := by
                  have z := ti_mul (a := 6) (b := k) (by rw [show (6 : Int32).toInt = 6 from by decide]; omega) (by rw [show (6 : Int32).toInt = 6 from by decide]; omega)
                  rw [z, show (6 : Int32).toInt = 6 from by decide]
                have k_205 : (4 : Int32).toInt = 4 := by decide
                have t_206 := ti_add (a := (6 * k)) (b := 4) (by omega) (by omega)
                refine vin ?_ ?_
                all_goals (try generalize Int32.toInt (rz ((1800 + (6 * r_46)) + 2).toNatClampNeg) = z0 at *; try generalize Int32.toInt (rz ((6 * k) + 2).toNatClampNeg) = z1 at *; try generalize Int32.toInt (ct (0 : Int32).toNatClampNeg) = z2 at *; try generalize Int32.toInt ((6 * k) + 4) = z3 at *; try generalize Int32.toInt (6 * k) = z4 at *; try generalize Int32.toInt r_46 = z5 at *; try generalize Int32.toInt (0 : Int32) = z6 at *; try generalize Int32.toInt (4 : Int32) = z7 at *; try generalize Int32.toInt (6 : Int32) = z8 at *; try generalize Int32.toInt k = z9 at *; omega)
              refine va_iast hx hb hG.1 hP hD hS 1 2 rfl rfl b_197 dX9_compose_178 (fun H locs hP hD hS => ?_)
              have hP : va_P (dC, dI) vwCl [(h0, .inr (9, [.int 0, .ref a0, .ref a1, .ref a2, .int dc, .ref a3, .int tl, .ref a4, .int xl, .int fo, .int fa, .ref a5, .int mn, .ref a6, .int ft, .ref a7, .int wl])), (a0, .inl (cI, 3600, .inl (upd (upd (upd rz ((6 * k) + 2).toNatClampNeg (rz ((1800 + (6 * r_46)) + 2).toNatClampNeg)) ((6 * k) + 3).toNatClampNeg ((upd rz ((6 * k) + 2).toNatClampNeg (rz ((1800 + (6 * r_46)) + 2).toNatClampNeg)) ((1800 + (6 * r_46)) + 3).toNatClampNeg)) ((6 * k) + 4).toNatClampNeg ((upd (upd rz ((6 * k) + 2).toNatClampNeg (rz ((1800 + (6 * r_46)) + 2).toNatClampNeg)) ((6 * k) + 3).toNatClampNeg ((upd rz ((6 * k) + 2).toNatClampNeg (rz ((1800 + (6 * r_46)) + 2).toNatClampNeg)) ((1800 + (6 * r_46)) + 3).toNatClampNeg)) ((1800 + (6 * r_46)) + 4).toNatClampNeg)))), (a1, .inl (cI, 2, .inl ct))] H := hP
              have hD : va_D A [(h0, .inr (9, [.int 0, .ref a0, .ref a1, .ref a2, .int dc, .ref a3, .int tl, .ref a4, .int xl, .int fo, .int fa, .ref a5, .int mn, .ref a6, .int ft, .ref a7, .int wl])), (a0, .inl (cI, 3600, .inl (upd (upd (upd rz ((6 * k) + 2).toNatClampNeg (rz ((1800 + (6 * r_46)) + 2).toNatClampNeg)) ((6 * k) + 3).toNatClampNeg ((upd rz ((6 * k) + 2).toNatClampNeg (rz ((1800 + (6 * r_46)) + 2).toNatClampNeg)) ((1800 + (6 * r_46)) + 3).toNatClampNeg)) ((6 * k) + 4).toNatClampNeg ((upd (upd rz ((6 * k) + 2).toNatClampNeg (rz ((1800 + (6 * r_46)) + 2).toNatClampNeg)) ((6 * k) + 3).toNatClampNeg ((upd rz ((6 * k) + 2).toNatClampNeg (rz ((1800 + (6 * r_46)) + 2).toNatClampNeg)) ((1800 + (6 * r_46)) + 3).toNatClampNeg)) ((1800 + (6 * r_46)) + 4).toNatClampNeg)))), (a1, .inl (cI, 2, .inl ct))] := hD
              refine lv_aload_n hx hb dX9_compose_179 rfl (lv_at hl 3 rfl) ?_
              refine va_get (D := (dC, dI)) (ci := 9) (v := .ref a0) (C := RX9) (T := TX9) (N := 17) hx hb hts inc_X9_compose_9 hown hG.1 hP 0 rfl rfl 1 (by decide) (hts (.fieldLink RX9 13 "MappingDeskModel" "rows" "[I") (by decide +kernel)) (fun _ h9 => h9) rfl dX9_compose_180 ?_
              refine lv_iload_n hx hb dX9_compose_183 rfl (lv_at hl 2 rfl) ?_
              refine lv_iconst (v := 5) hx hb dX9_compose_184 (by decide) ?_
              refine lv_iadd hx hb dX9_compose_185 ?_
              have b_209 : vp_in ((6 * k) + 5) 3600 := by
                have q_210 := i_nle c_5
                have k_211 : (0 : Int32).toInt = 0 := by decide
                have q_212 := i_le c_14
                have q_213 := i_nlt c_47
                have q_214 := i_le c_130
                have hq7 := hct (0 : Int32).toNatClampNeg (by decide)
                have k_215 : (6 : Int32).toInt = 6 := by decide
                have t_216 : ((6 * k)).toInt = 6 * (k).toInt := by
                  have z := ti_mul (a := 6) (b := k) (by rw [show (6 : Int32).toInt = 6 from by decide]; omega) (by rw [show (6 : Int32).toInt = 6 from by decide]; omega)
                  rw [z, show (6 : Int32).toInt = 6 from by decide]
                have k_217 : (5 : Int32).toInt = 5 := by decide
                have t_218 := ti_add (a := (6 * k)) (b := 5) (by omega) (by omega)
                refine vin ?_ ?_
                all_goals (try generalize Int32.toInt (rz ((1800 + (6 * r_46)) + 2).toNatClampNeg) = z0 at *; try generalize Int32.toInt (rz ((6 * k) + 2).toNatClampNeg) = z1 at *; try generalize Int32.toInt (ct (0 : Int32).toNatClampNeg) = z2 at *; try generalize Int32.toInt ((6 * k) + 5) = z3 at *; try generalize Int32.toInt (6 * k) = z4 at *; try generalize Int32.toInt r_46 = z5 at *; try generalize Int32.toInt (0 : Int32) = z6 at *; try generalize Int32.toInt (5 : Int32) = z7 at *; try generalize Int32.toInt (6 : Int32) = z8 at *; try generalize Int32.toInt k = z9 at *; omega)
              refine va_iald hx hb hG.1 hP 1 2 rfl rfl b_209 dX9_compose_186 ?_
              refine lv_if_ge (tgt := 207) hx hb dX9_compose_187 (by decide) (fun c_221 => ?_) (fun c_221 => ?_)
              · rw [if_pos c_221] at hR
                refine lv_iinc (v := (te + 1)) (lv' := [(1, .int (te + 1)), (5, .int (1800 + (6 * r_46))), (4, .int r_46), (3, .int (6 * k)), (0, .ref h0), (2, .int k)]) hx hb dX9_compose_207 hl (k := 4) rfl rfl (by decide) rfl (fun ls hl => ?_)
                refine lv_iinc (v := (k + 1)) (lv' := [(2, .int (k + 1)), (1, .int (te + 1)), (5, .int (1800 + (6 * r_46))), (4, .int r_46), (3, .int (6 * k)), (0, .ref h0)]) hx hb dX9_compose_210 hl (k := 5) rfl rfl (by decide) rfl (fun ls hl => ?_)
                refine lv_goto (tgt := 9) hx hb dX9_compose_213 (by decide) ?_
                have v_228 : 0 ≤ ((k + 1)).toInt := by
                  have q_229 := i_nle c_5
                  have k_230 : (0 : Int32).toInt = 0 := by decide
                  have q_231 := i_le c_14
                  have q_232 := i_nlt c_47
                  have q_233 := i_le c_130
                  have q_234 := i_le c_221
                  have hq7 := hct (0 : Int32).toNatClampNeg (by decide)
                  have k_235 : (1 : Int32).toInt = 1 := by decide
                  have t_236 := ti_add (a := k) (b := 1) (by omega) (by omega)
                  try generalize Int32.toInt ((upd (upd (upd rz ((6 * k) + 2).toNatClampNeg (rz ((1800 + (6 * r_46)) + 2).toNatClampNeg)) ((6 * k) + 3).toNatClampNeg ((upd rz ((6 * k) + 2).toNatClampNeg (rz ((1800 + (6 * r_46)) + 2).toNatClampNeg)) ((1800 + (6 * r_46)) + 3).toNatClampNeg)) ((6 * k) + 4).toNatClampNeg ((upd (upd rz ((6 * k) + 2).toNatClampNeg (rz ((1800 + (6 * r_46)) + 2).toNatClampNeg)) ((6 * k) + 3).toNatClampNeg ((upd rz ((6 * k) + 2).toNatClampNeg (rz ((1800 + (6 * r_46)) + 2).toNatClampNeg)) ((1800 + (6 * r_46)) + 3).toNatClampNeg)) ((1800 + (6 * r_46)) + 4).toNatClampNeg)) ((6 * k) + 5).toNatClampNeg) = z0 at *
                  try generalize Int32.toInt (rz ((1800 + (6 * r_46)) + 2).toNatClampNeg) = z1 at *
                  try generalize Int32.toInt (rz ((6 * k) + 2).toNatClampNeg) = z2 at *
                  try generalize Int32.toInt (ct (0 : Int32).toNatClampNeg) = z3 at *
                  try generalize Int32.toInt (k + 1) = z4 at *
                  try generalize Int32.toInt r_46 = z5 at *
                  try generalize Int32.toInt (0 : Int32) = z6 at *
                  try generalize Int32.toInt (1 : Int32) = z7 at *
                  try generalize Int32.toInt k = z8 at *
                  omega
                have v_237 : ((k + 1)).toInt ≤ (ct (0 : Int32).toNatClampNeg).toInt := by
                  have q_238 := i_nle c_5
                  have k_239 : (0 : Int32).toInt = 0 := by decide
                  have q_240 := i_le c_14
                  have q_241 := i_nlt c_47
                  have q_242 := i_le c_130
                  have q_243 := i_le c_221
                  have hq7 := hct (0 : Int32).toNatClampNeg (by decide)
                  have k_244 : (1 : Int32).toInt = 1 := by decide
                  have t_245 := ti_add (a := k) (b := 1) (by omega) (by omega)
                  try generalize Int32.toInt ((upd (upd (upd rz ((6 * k) + 2).toNatClampNeg (rz ((1800 + (6 * r_46)) + 2).toNatClampNeg)) ((6 * k) + 3).toNatClampNeg ((upd rz ((6 * k) + 2).toNatClampNeg (rz ((1800 + (6 * r_46)) + 2).toNatClampNeg)) ((1800 + (6 * r_46)) + 3).toNatClampNeg)) ((6 * k) + 4).toNatClampNeg ((upd (upd rz ((6 * k) + 2).toNatClampNeg (rz ((1800 + (6 * r_46)) + 2).toNatClampNeg)) ((6 * k) + 3).toNatClampNeg ((upd rz ((6 * k) + 2).toNatClampNeg (rz ((1800 + (6 * r_46)) + 2).toNatClampNeg)) ((1800 + (6 * r_46)) + 3).toNatClampNeg)) ((1800 + (6 * r_46)) + 4).toNatClampNeg)) ((6 * k) + 5).toNatClampNeg) = z0 at *
                  try generalize Int32.toInt (rz ((1800 + (6 * r_46)) + 2).toNatClampNeg) = z1 at *
                  try generalize Int32.toInt (rz ((6 * k) + 2).toNatClampNeg) = z2 at *
                  try generalize Int32.toInt (ct (0 : Int32).toNatClampNeg) = z3 at *
                  try generalize Int32.toInt (k + 1) = z4 at *
                  try generalize Int32.toInt r_46 = z5 at *
                  try generalize Int32.toInt (0 : Int32) = z6 at *
                  try generalize Int32.toInt (1 : Int32) = z7 at *
                  try generalize Int32.toInt k = z8 at *
                  omega
                have v_246 : (ct (0 : Int32).toNatClampNeg).toInt - ((k + 1)).toInt < ((n : Nat) : Int) := by
                  have q_247 := i_nle c_5
                  have k_248 : (0 : Int32).toInt = 0 := by decide
                  have q_249 := i_le c_14
                  have q_250 := i_nlt c_47
                  have q_251 := i_le c_130
                  have q_252 := i_le c_221
                  have hq7 := hct (0 : Int32).toNatClampNeg (by decide)
                  have k_253 : (1 : Int32).toInt = 1 := by decide
                  have t_254 := ti_add (a := k) (b := 1) (by omega) (by omega)
                  try generalize Int32.toInt ((upd (upd (upd rz ((6 * k) + 2).toNatClampNeg (rz ((1800 + (6 * r_46)) + 2).toNatClampNeg)) ((6 * k) + 3).toNatClampNeg ((upd rz ((6 * k) + 2).toNatClampNeg (rz ((1800 + (6 * r_46)) + 2).toNatClampNeg)) ((1800 + (6 * r_46)) + 3).toNatClampNeg)) ((6 * k) + 4).toNatClampNeg ((upd (upd rz ((6 * k) + 2).toNatClampNeg (rz ((1800 + (6 * r_46)) + 2).toNatClampNeg)) ((6 * k) + 3).toNatClampNeg ((upd rz ((6 * k) + 2).toNatClampNeg (rz ((1800 + (6 * r_46)) + 2).toNatClampNeg)) ((1800 + (6 * r_46)) + 3).toNatClampNeg)) ((1800 + (6 * r_46)) + 4).toNatClampNeg)) ((6 * k) + 5).toNatClampNeg) = z0 at *
                  try generalize Int32.toInt (rz ((1800 + (6 * r_46)) + 2).toNatClampNeg) = z1 at *
                  try generalize Int32.toInt (rz ((6 * k) + 2).toNatClampNeg) = z2 at *
                  try generalize Int32.toInt (ct (0 : Int32).toNatClampNeg) = z3 at *
                  try generalize Int32.toInt (k + 1) = z4 at *
                  try generalize Int32.toInt r_46 = z5 at *
                  try generalize Int32.toInt (0 : Int32) = z6 at *
                  try generalize Int32.toInt (1 : Int32) = z7 at *
                  try generalize Int32.toInt k = z8 at *
                  omega
                exact ih ((te + 1)) ((k + 1)) ((upd (upd (upd rz ((6 * k) + 2).toNatClampNeg (rz ((1800 + (6 * r_46)) + 2).toNatClampNeg)) ((6 * k) + 3).toNatClampNeg ((upd rz ((6 * k) + 2).toNatClampNeg (rz ((1800 + (6 * r_46)) + 2).toNatClampNeg)) ((1800 + (6 * r_46)) + 3).toNatClampNeg)) ((6 * k) + 4).toNatClampNeg ((upd (upd rz ((6 * k) + 2).toNatClampNeg (rz ((1800 + (6 * r_46)) + 2).toNatClampNeg)) ((6 * k) + 3).toNatClampNeg ((upd rz ((6 * k) + 2).toNatClampNeg (rz ((1800 + (6 * r_46)) + 2).toNatClampNeg)) ((1800 + (6 * r_46)) + 3).toNatClampNeg)) ((1800 + (6 * r_46)) + 4).toNatClampNeg))) _ _ ls hR v_228 v_237 v_246 hP hD hS (lv_sub hl [5, 1, 0] rfl)
              · rw [if_neg c_221] at hR
                refine lv_aload_n hx hb dX9_compose_190 rfl (lv_at hl 3 rfl) ?_
                refine va_get (D := (dC, dI)) (ci := 9) (v := .ref a0) (C := RX9) (T := TX9) (N := 17) hx hb hts inc_X9_compose_9 hown hG.1 hP 0 rfl rfl 1 (by decide) (hts (.fieldLink RX9 13 "MappingDeskModel" "rows" "[I") (by decide +kernel)) (fun _ h9 => h9) rfl dX9_compose_191 ?_
                refine lv_iload_n hx hb dX9_compose_194 rfl (lv_at hl 2 rfl) ?_
                refine lv_iconst (v := 5) hx hb dX9_compose_195 (by decide) ?_
                refine lv_iadd hx hb dX9_compose_196 ?_
                refine lv_aload_n hx hb dX9_compose_197 rfl (lv_at hl 3 rfl) ?_
                refine va_get (D := (dC, dI)) (ci := 9) (v := .ref a0) (C := RX9) (T := TX9) (N := 17) hx hb hts inc_X9_compose_9 hown hG.1 hP 0 rfl rfl 1 (by decide) (hts (.fieldLink RX9 13 "MappingDeskModel" "rows" "[I") (by decide +kernel)) (fun _ h9 => h9) rfl dX9_compose_198 ?_
                refine lv_iload hx hb dX9_compose_201 (lv_at hl 0 rfl) ?_
                refine lv_iconst (v := 5) hx hb dX9_compose_203 (by decide) ?_
                refine lv_iadd hx hb dX9_compose_204 ?_
                have b_255 : vp_in ((1800 + (6 * r_46)) + 5) 3600 := by
                  have q_256 := i_nle c_5
                  have k_257 : (0 : Int32).toInt = 0 := by decide
                  have q_258 := i_le c_14
                  have q_259 := i_nlt c_47
                  have q_260 := i_le c_130
                  have q_261 := i_nle c_221
                  have hq7 := hct (0 : Int32).toNatClampNeg (by decide)
                  have k_262 : (1800 : Int32).toInt = 1800 := by decide
                  have k_263 : (6 : Int32).toInt = 6 := by decide
                  have t_264 : ((6 * r_46)).toInt = 6 * (r_46).toInt := by
                    have z := ti_mul (a := 6) (b := r_46) (by rw [show (6 : Int32).toInt = 6 from by decide]; omega) (by rw [show (6 : Int32).toInt = 6 from by decide]; omega)
                    rw [z, show (6 : Int32).toInt = 6 from by decide]
                  have t_265 := ti_add (a := 1800) (b := (6 * r_46)) (by omega) (by omega)
                  have k_266 : (5 : Int32).toInt = 5 := by decide
                  have t_267 := ti_add (a := (1800 + (6 * r_46))) (b := 5) (by omega) (by omega)
                  refine vin ?_ ?_
                  all_goals (try generalize Int32.toInt ((upd (upd (upd rz ((6 * k) + 2).toNatClampNeg (rz ((1800 + (6 * r_46)) + 2).toNatClampNeg)) ((6 * k) + 3).toNatClampNeg ((upd rz ((6 * k) + 2).toNatClampNeg (rz ((1800 + (6 * r_46)) + 2).toNatClampNeg)) ((1800 + (6 * r_46)) + 3).toNatClampNeg)) ((6 * k) + 4).toNatClampNeg ((upd (upd rz ((6 * k) + 2).toNatClampNeg (rz ((1800 + (6 * r_46)) + 2).toNatClampNeg)) ((6 * k) + 3).toNatClampNeg ((upd rz ((6 * k) + 2).toNatClampNeg (rz ((1800 + (6 * r_46)) + 2).toNatClampNeg)) ((1800 + (6 * r_46)) + 3).toNatClampNeg)) ((1800 + (6 * r_46)) + 4).toNatClampNeg)) ((6 * k) + 5).toNatClampNeg) = z0 at *; try generalize Int32.toInt (rz ((1800 + (6 * r_46)) + 2).toNatClampNeg) = z1 at *; try generalize Int32.toInt (rz ((6 * k) + 2).toNatClampNeg) = z2 at *; try generalize Int32.toInt (ct (0 : Int32).toNatClampNeg) = z3 at *; try generalize Int32.toInt ((1800 + (6 * r_46)) + 5) = z4 at *; try generalize Int32.toInt (1800 + (6 * r_46)) = z5 at *; try generalize Int32.toInt (6 * r_46) = z6 at *; try generalize Int32.toInt (1800 : Int32) = z7 at *; try generalize Int32.toInt r_46 = z8 at *; try generalize Int32.toInt (0 : Int32) = z9 at *; try generalize Int32.toInt (5 : Int32) = z10 at *; try generalize Int32.toInt (6 : Int32) = z11 at *; try generalize Int32.toInt k = z12 at *; omega)
                refine va_iald hx hb hG.1 hP 1 2 rfl rfl b_255 dX9_compose_205 ?_
                have b_270 : vp_in ((6 * k) + 5) 3600 := by
                  have q_271 := i_nle c_5
                  have k_272 : (0 : Int32).toInt = 0 := by decide
                  have q_273 := i_le c_14
                  have q_274 := i_nlt c_47
                  have q_275 := i_le c_130
                  have q_276 := i_nle c_221
                  have hq7 := hct (0 : Int32).toNatClampNeg (by decide)
                  have k_277 : (6 : Int32).toInt = 6 := by decide
                  have t_278 : ((6 * k)).toInt = 6 * (k).toInt := by
                    have z := ti_mul (a := 6) (b := k) (by rw [show (6 : Int32).toInt = 6 from by decide]; omega) (by rw [show (6 : Int32).toInt = 6 from by decide]; omega)
                    rw [z, show (6 : Int32).toInt = 6 from by decide]
                  have k_279 : (5 : Int32).toInt = 5 := by decide
                  have t_280 := ti_add (a := (6 * k)) (b := 5) (by omega) (by omega)
                  refine vin ?_ ?_
                  all_goals (try generalize Int32.toInt ((upd (upd (upd rz ((6 * k) + 2).toNatClampNeg (rz ((1800 + (6 * r_46)) + 2).toNatClampNeg)) ((6 * k) + 3).toNatClampNeg ((upd rz ((6 * k) + 2).toNatClampNeg (rz ((1800 + (6 * r_46)) + 2).toNatClampNeg)) ((1800 + (6 * r_46)) + 3).toNatClampNeg)) ((6 * k) + 4).toNatClampNeg ((upd (upd rz ((6 * k) + 2).toNatClampNeg (rz ((1800 + (6 * r_46)) + 2).toNatClampNeg)) ((6 * k) + 3).toNatClampNeg ((upd rz ((6 * k) + 2).toNatClampNeg (rz ((1800 + (6 * r_46)) + 2).toNatClampNeg)) ((1800 + (6 * r_46)) + 3).toNatClampNeg)) ((1800 + (6 * r_46)) + 4).toNatClampNeg)) ((6 * k) + 5).toNatClampNeg) = z0 at *; try generalize Int32.toInt (rz ((1800 + (6 * r_46)) + 2).toNatClampNeg) = z1 at *; try generalize Int32.toInt (rz ((6 * k) + 2).toNatClampNeg) = z2 at *; try generalize Int32.toInt (ct (0 : Int32).toNatClampNeg) = z3 at *; try generalize Int32.toInt ((6 * k) + 5) = z4 at *; try generalize Int32.toInt (6 * k) = z5 at *; try generalize Int32.toInt r_46 = z6 at *; try generalize Int32.toInt (0 : Int32) = z7 at *; try generalize Int32.toInt (5 : Int32) = z8 at *; try generalize Int32.toInt (6 : Int32) = z9 at *; try generalize Int32.toInt k = z10 at *; omega)
                refine va_iast hx hb hG.1 hP hD hS 1 2 rfl rfl b_270 dX9_compose_206 (fun H locs hP hD hS => ?_)
                have hP : va_P (dC, dI) vwCl [(h0, .inr (9, [.int 0, .ref a0, .ref a1, .ref a2, .int dc, .ref a3, .int tl, .ref a4, .int xl, .int fo, .int fa, .ref a5, .int mn, .ref a6, .int ft, .ref a7, .int wl])), (a0, .inl (cI, 3600, .inl (upd (upd (upd (upd rz ((6 * k) + 2).toNatClampNeg (rz ((1800 + (6 * r_46)) + 2).toNatClampNeg)) ((6 * k) + 3).toNatClampNeg ((upd rz ((6 * k) + 2).toNatClampNeg (rz ((1800 + (6 * r_46)) + 2).toNatClampNeg)) ((1800 + (6 * r_46)) + 3).toNatClampNeg)) ((6 * k) + 4).toNatClampNeg ((upd (upd rz ((6 * k) + 2).toNatClampNeg (rz ((1800 + (6 * r_46)) + 2).toNatClampNeg)) ((6 * k) + 3).toNatClampNeg ((upd rz ((6 * k) + 2).toNatClampNeg (rz ((1800 + (6 * r_46)) + 2).toNatClampNeg)) ((1800 + (6 * r_46)) + 3).toNatClampNeg)) ((1800 + (6 * r_46)) + 4).toNatClampNeg)) ((6 * k) + 5).toNatClampNeg ((upd (upd (upd rz ((6 * k) + 2).toNatClampNeg (rz ((1800 + (6 * r_46)) + 2).toNatClampNeg)) ((6 * k) + 3).toNatClampNeg ((upd rz ((6 * k) + 2).toNatClampNeg (rz ((1800 + (6 * r_46)) + 2).toNatClampNeg)) ((1800 + (6 * r_46)) + 3).toNatClampNeg)) ((6 * k) + 4).toNatClampNeg ((upd (upd rz ((6 * k) + 2).toNatClampNeg (rz ((1800 + (6 * r_46)) + 2).toNatClampNeg)) ((6 * k) + 3).toNatClampNeg ((upd rz ((6 * k) + 2).toNatClampNeg (rz ((1800 + (6 * r_46)) + 2).toNatClampNeg)) ((1800 + (6 * r_46)) + 3).toNatClampNeg)) ((1800 + (6 * r_46)) + 4).toNatClampNeg)) ((1800 + (6 * r_46)) + 5).toNatClampNeg)))), (a1, .inl (cI, 2, .inl ct))] H := hP
                have hD : va_D A [(h0, .inr (9, [.int 0, .ref a0, .ref a1, .ref a2, .int dc, .ref a3, .int tl, .ref a4, .int xl, .int fo, .int fa, .ref a5, .int mn, .ref a6, .int ft, .ref a7, .int wl])), (a0, .inl (cI, 3600, .inl (upd (upd (upd (upd rz ((6 * k) + 2).toNatClampNeg (rz ((1800 + (6 * r_46)) + 2).toNatClampNeg)) ((6 * k) + 3).toNatClampNeg ((upd rz ((6 * k) + 2).toNatClampNeg (rz ((1800 + (6 * r_46)) + 2).toNatClampNeg)) ((1800 + (6 * r_46)) + 3).toNatClampNeg)) ((6 * k) + 4).toNatClampNeg ((upd (upd rz ((6 * k) + 2).toNatClampNeg (rz ((1800 + (6 * r_46)) + 2).toNatClampNeg)) ((6 * k) + 3).toNatClampNeg ((upd rz ((6 * k) + 2).toNatClampNeg (rz ((1800 + (6 * r_46)) + 2).toNatClampNeg)) ((1800 + (6 * r_46)) + 3).toNatClampNeg)) ((1800 + (6 * r_46)) + 4).toNatClampNeg)) ((6 * k) + 5).toNatClampNeg ((upd (upd (upd rz ((6 * k) + 2).toNatClampNeg (rz ((1800 + (6 * r_46)) + 2).toNatClampNeg)) ((6 * k) + 3).toNatClampNeg ((upd rz ((6 * k) + 2).toNatClampNeg (rz ((1800 + (6 * r_46)) + 2).toNatClampNeg)) ((1800 + (6 * r_46)) + 3).toNatClampNeg)) ((6 * k) + 4).toNatClampNeg ((upd (upd rz ((6 * k) + 2).toNatClampNeg (rz ((1800 + (6 * r_46)) + 2).toNatClampNeg)) ((6 * k) + 3).toNatClampNeg ((upd rz ((6 * k) + 2).toNatClampNeg (rz ((1800 + (6 * r_46)) + 2).toNatClampNeg)) ((1800 + (6 * r_46)) + 3).toNatClampNeg)) ((1800 + (6 * r_46)) + 4).toNatClampNeg)) ((1800 + (6 * r_46)) + 5).toNatClampNeg)))), (a1, .inl (cI, 2, .inl ct))] := hD
                refine lv_iinc (v := (te + 1)) (lv' := [(1, .int (te + 1)), (5, .int (1800 + (6 * r_46))), (4, .int r_46), (3, .int (6 * k)), (0, .ref h0), (2, .int k)]) hx hb dX9_compose_207 hl (k := 4) rfl rfl (by decide) rfl (fun ls hl => ?_)
                refine lv_iinc (v := (k + 1)) (lv' := [(2, .int (k + 1)), (1, .int (te + 1)), (5, .int (1800 + (6 * r_46))), (4, .int r_46), (3, .int (6 * k)), (0, .ref h0)]) hx hb dX9_compose_210 hl (k := 5) rfl rfl (by decide) rfl (fun ls hl => ?_)
                refine lv_goto (tgt := 9) hx hb dX9_compose_213 (by decide) ?_
                have v_289 : 0 ≤ ((k + 1)).toInt := by
                  have q_290 := i_nle c_5
                  have k_291 : (0 : Int32).toInt = 0 := by decide
                  have q_292 := i_le c_14
                  have q_293 := i_nlt c_47
                  have q_294 := i_le c_130
                  have q_295 := i_nle c_221
                  have hq7 := hct (0 : Int32).toNatClampNeg (by decide)
                  have k_296 : (1 : Int32).toInt = 1 := by decide
                  have t_297 := ti_add (a := k) (b := 1) (by omega) (by omega)
                  try generalize Int32.toInt ((upd (upd (upd rz ((6 * k) + 2).toNatClampNeg (rz ((1800 + (6 * r_46)) + 2).toNatClampNeg)) ((6 * k) + 3).toNatClampNeg ((upd rz ((6 * k) + 2).toNatClampNeg (rz ((1800 + (6 * r_46)) + 2).toNatClampNeg)) ((1800 + (6 * r_46)) + 3).toNatClampNeg)) ((6 * k) + 4).toNatClampNeg ((upd (upd rz ((6 * k) + 2).toNatClampNeg (rz ((1800 + (6 * r_46)) + 2).toNatClampNeg)) ((6 * k) + 3).toNatClampNeg ((upd rz ((6 * k) + 2).toNatClampNeg (rz ((1800 + (6 * r_46)) + 2).toNatClampNeg)) ((1800 + (6 * r_46)) + 3).toNatClampNeg)) ((1800 + (6 * r_46)) + 4).toNatClampNeg)) ((6 * k) + 5).toNatClampNeg) = z0 at *
                  try generalize Int32.toInt (rz ((1800 + (6 * r_46)) + 2).toNatClampNeg) = z1 at *
                  try generalize Int32.toInt (rz ((6 * k) + 2).toNatClampNeg) = z2 at *
                  try generalize Int32.toInt (ct (0 : Int32).toNatClampNeg) = z3 at *
                  try generalize Int32.toInt (k + 1) = z4 at *
                  try generalize Int32.toInt r_46 = z5 at *
                  try generalize Int32.toInt (0 : Int32) = z6 at *
                  try generalize Int32.toInt (1 : Int32) = z7 at *
                  try generalize Int32.toInt k = z8 at *
                  omega
                have v_298 : ((k + 1)).toInt ≤ (ct (0 : Int32).toNatClampNeg).toInt := by
                  have q_299 := i_nle c_5
                  have k_300 : (0 : Int32).toInt = 0 := by decide
                  have q_301 := i_le c_14
                  have q_302 := i_nlt c_47
                  have q_303 := i_le c_130
                  have q_304 := i_nle c_221
                  have hq7 := hct (0 : Int32).toNatClampNeg (by decide)
                  have k_305 : (1 : Int32).toInt = 1 := by decide
                  have t_306 := ti_add (a := k) (b := 1) (by omega) (by omega)
                  try generalize Int32.toInt ((upd (upd (upd rz ((6 * k) + 2).toNatClampNeg (rz ((1800 + (6 * r_46)) + 2).toNatClampNeg)) ((6 * k) + 3).toNatClampNeg ((upd rz ((6 * k) + 2).toNatClampNeg (rz ((1800 + (6 * r_46)) + 2).toNatClampNeg)) ((1800 + (6 * r_46)) + 3).toNatClampNeg)) ((6 * k) + 4).toNatClampNeg ((upd (upd rz ((6 * k) + 2).toNatClampNeg (rz ((1800 + (6 * r_46)) + 2).toNatClampNeg)) ((6 * k) + 3).toNatClampNeg ((upd rz ((6 * k) + 2).toNatClampNeg (rz ((1800 + (6 * r_46)) + 2).toNatClampNeg)) ((1800 + (6 * r_46)) + 3).toNatClampNeg)) ((1800 + (6 * r_46)) + 4).toNatClampNeg)) ((6 * k) + 5).toNatClampNeg) = z0 at *
                  try generalize Int32.toInt (rz ((1800 + (6 * r_46)) + 2).toNatClampNeg) = z1 at *
                  try generalize Int32.toInt (rz ((6 * k) + 2).toNatClampNeg) = z2 at *
                  try generalize Int32.toInt (ct (0 : Int32).toNatClampNeg) = z3 at *
                  try generalize Int32.toInt (k + 1) = z4 at *
                  try generalize Int32.toInt r_46 = z5 at *
                  try generalize Int32.toInt (0 : Int32) = z6 at *
                  try generalize Int32.toInt (1 : Int32) = z7 at *
                  try generalize Int32.toInt k = z8 at *
                  omega
                have v_307 : (ct (0 : Int32).toNatClampNeg).toInt - ((k + 1)).toInt < ((n : Nat) : Int) := by
                  have q_308 := i_nle c_5
                  have k_309 : (0 : Int32).toInt = 0 := by decide
                  have q_310 := i_le c_14
                  have q_311 := i_nlt c_47
                  have q_312 := i_le c_130
                  have q_313 := i_nle c_221
                  have hq7 := hct (0 : Int32).toNatClampNeg (by decide)
                  have k_314 : (1 : Int32).toInt = 1 := by decide
                  have t_315 := ti_add (a := k) (b := 1) (by omega) (by omega)
                  try generalize Int32.toInt ((upd (upd (upd rz ((6 * k) + 2).toNatClampNeg (rz ((1800 + (6 * r_46)) + 2).toNatClampNeg)) ((6 * k) + 3).toNatClampNeg ((upd rz ((6 * k) + 2).toNatClampNeg (rz ((1800 + (6 * r_46)) + 2).toNatClampNeg)) ((1800 + (6 * r_46)) + 3).toNatClampNeg)) ((6 * k) + 4).toNatClampNeg ((upd (upd rz ((6 * k) + 2).toNatClampNeg (rz ((1800 + (6 * r_46)) + 2).toNatClampNeg)) ((6 * k) + 3).toNatClampNeg ((upd rz ((6 * k) + 2).toNatClampNeg (rz ((1800 + (6 * r_46)) + 2).toNatClampNeg)) ((1800 + (6 * r_46)) + 3).toNatClampNeg)) ((1800 + (6 * r_46)) + 4).toNatClampNeg)) ((6 * k) + 5).toNatClampNeg) = z0 at *
                  try generalize Int32.toInt (rz ((1800 + (6 * r_46)) + 2).toNatClampNeg) = z1 at *
                  try generalize Int32.toInt (rz ((6 * k) + 2).toNatClampNeg) = z2 at *
                  try generalize Int32.toInt (ct (0 : Int32).toNatClampNeg) = z3 at *
                  try generalize Int32.toInt (k + 1) = z4 at *
                  try generalize Int32.toInt r_46 = z5 at *
                  try generalize Int32.toInt (0 : Int32) = z6 at *
                  try generalize Int32.toInt (1 : Int32) = z7 at *
                  try generalize Int32.toInt k = z8 at *
                  omega
                exact ih ((te + 1)) ((k + 1)) ((upd (upd (upd (upd rz ((6 * k) + 2).toNatClampNeg (rz ((1800 + (6 * r_46)) + 2).toNatClampNeg)) ((6 * k) + 3).toNatClampNeg ((upd rz ((6 * k) + 2).toNatClampNeg (rz ((1800 + (6 * r_46)) + 2).toNatClampNeg)) ((1800 + (6 * r_46)) + 3).toNatClampNeg)) ((6 * k) + 4).toNatClampNeg ((upd (upd rz ((6 * k) + 2).toNatClampNeg (rz ((1800 + (6 * r_46)) + 2).toNatClampNeg)) ((6 * k) + 3).toNatClampNeg ((upd rz ((6 * k) + 2).toNatClampNeg (rz ((1800 + (6 * r_46)) + 2).toNatClampNeg)) ((1800 + (6 * r_46)) + 3).toNatClampNeg)) ((1800 + (6 * r_46)) + 4).toNatClampNeg)) ((6 * k) + 5).toNatClampNeg ((upd (upd (upd rz ((6 * k) + 2).toNatClampNeg (rz ((1800 + (6 * r_46)) + 2).toNatClampNeg)) ((6 * k) + 3).toNatClampNeg ((upd rz ((6 * k) + 2).toNatClampNeg (rz ((1800 + (6 * r_46)) + 2).toNatClampNeg)) ((1800 + (6 * r_46)) + 3).toNatClampNeg)) ((6 * k) + 4).toNatClampNeg ((upd (upd rz ((6 * k) + 2).toNatClampNeg (rz ((1800 + (6 * r_46)) + 2).toNatClampNeg)) ((6 * k) + 3).toNatClampNeg ((upd rz ((6 * k) + 2).toNatClampNeg (rz ((1800 + (6 * r_46)) + 2).toNatClampNeg)) ((1800 + (6 * r_46)) + 3).toNatClampNeg)) ((1800 + (6 * r_46)) + 4).toNatClampNeg)) ((1800 + (6 * r_46)) + 5).toNatClampNeg))) _ _ ls hR v_289 v_298 v_307 hP hD hS (lv_sub hl [5, 1, 0] rfl)
            · rw [if_neg c_130] at hR
              refine lv_aload_n hx hb dX9_compose_89 rfl (lv_at hl 3 rfl) ?_
              refine va_get (D := (dC, dI)) (ci := 9) (v := .ref a0) (C := RX9) (T := TX9) (N := 17) hx hb hts inc_X9_compose_9 hown hG.1 hP 0 rfl rfl 1 (by decide) (hts (.fieldLink RX9 13 "MappingDeskModel" "rows" "[I") (by decide +kernel)) (fun _ h9 => h9) rfl dX9_compose_90 ?_
              refine lv_iload_n hx hb dX9_compose_93 rfl (lv_at hl 2 rfl) ?_
              refine lv_iconst (v := 2) hx hb dX9_compose_94 (by decide) ?_
              refine lv_iadd hx hb dX9_compose_95 ?_
              refine lv_iconst (v := (-1)) hx hb dX9_compose_96 (by decide) ?_
              have b_316 : vp_in ((6 * k) + 2) 3600 := by
                have q_317 := i_nle c_5
                have k_318 : (0 : Int32).toInt = 0 := by decide
                have q_319 := i_le c_14
                have q_320 := i_nlt c_47
                have q_321 := i_nle c_130
                have hq7 := hct (0 : Int32).toNatClampNeg (by decide)
                have k_322 : (6 : Int32).toInt = 6 := by decide
                have t_323 : ((6 * k)).toInt = 6 * (k).toInt := by
                  have z := ti_mul (a := 6) (b := k) (by rw [show (6 : Int32).toInt = 6 from by decide]; omega) (by rw [show (6 : Int32).toInt = 6 from by decide]; omega)
                  rw [z, show (6 : Int32).toInt = 6 from by decide]
                have k_324 : (2 : Int32).toInt = 2 := by decide
                have t_325 := ti_add (a := (6 * k)) (b := 2) (by omega) (by omega)
                refine vin ?_ ?_
                all_goals (try generalize Int32.toInt (rz ((1800 + (6 * r_46)) + 2).toNatClampNeg) = z0 at *; try generalize Int32.toInt (rz ((6 * k) + 2).toNatClampNeg) = z1 at *; try generalize Int32.toInt (ct (0 : Int32).toNatClampNeg) = z2 at *; try generalize Int32.toInt ((6 * k) + 2) = z3 at *; try generalize Int32.toInt (6 * k) = z4 at *; try generalize Int32.toInt r_46 = z5 at *; try generalize Int32.toInt (0 : Int32) = z6 at *; try generalize Int32.toInt (2 : Int32) = z7 at *; try generalize Int32.toInt (6 : Int32) = z8 at *; try generalize Int32.toInt k = z9 at *; omega)
              refine va_iast hx hb hG.1 hP hD hS 1 2 rfl rfl b_316 dX9_compose_97 (fun H locs hP hD hS => ?_)
              have hP : va_P (dC, dI) vwCl [(h0, .inr (9, [.int 0, .ref a0, .ref a1, .ref a2, .int dc, .ref a3, .int tl, .ref a4, .int xl, .int fo, .int fa, .ref a5, .int mn, .ref a6, .int ft, .ref a7, .int wl])), (a0, .inl (cI, 3600, .inl (upd rz ((6 * k) + 2).toNatClampNeg (-1)))), (a1, .inl (cI, 2, .inl ct))] H := hP
              have hD : va_D A [(h0, .inr (9, [.int 0, .ref a0, .ref a1, .ref a2, .int dc, .ref a3, .int tl, .ref a4, .int xl, .int fo, .int fa, .ref a5, .int mn, .ref a6, .int ft, .ref a7, .int wl])), (a0, .inl (cI, 3600, .inl (upd rz ((6 * k) + 2).toNatClampNeg (-1)))), (a1, .inl (cI, 2, .inl ct))] := hD
              refine lv_aload_n hx hb dX9_compose_98 rfl (lv_at hl 3 rfl) ?_
              refine va_get (D := (dC, dI)) (ci := 9) (v := .ref a0) (C := RX9) (T := TX9) (N := 17) hx hb hts inc_X9_compose_9 hown hG.1 hP 0 rfl rfl 1 (by decide) (hts (.fieldLink RX9 13 "MappingDeskModel" "rows" "[I") (by decide +kernel)) (fun _ h9 => h9) rfl dX9_compose_99 ?_
              refine lv_iload_n hx hb dX9_compose_102 rfl (lv_at hl 2 rfl) ?_
              refine lv_iconst (v := 3) hx hb dX9_compose_103 (by decide) ?_
              refine lv_iadd hx hb dX9_compose_104 ?_
              refine lv_iconst (v := 0) hx hb dX9_compose_105 (by decide) ?_
              have b_328 : vp_in ((6 * k) + 3) 3600 := by
                have q_329 := i_nle c_5
                have k_330 : (0 : Int32).toInt = 0 := by decide
                have q_331 := i_le c_14
                have q_332 := i_nlt c_47
                have q_333 := i_nle c_130
                have hq7 := hct (0 : Int32).toNatClampNeg (by decide)
                have k_334 : (6 : Int32).toInt = 6 := by decide
                have t_335 : ((6 * k)).toInt = 6 * (k).toInt := by
                  have z := ti_mul (a := 6) (b := k) (by rw [show (6 : Int32).toInt = 6 from by decide]; omega) (by rw [show (6 : Int32).toInt = 6 from by decide]; omega)
                  rw [z, show (6 : Int32).toInt = 6 from by decide]
                have k_336 : (3 : Int32).toInt = 3 := by decide
                have t_337 := ti_add (a := (6 * k)) (b := 3) (by omega) (by omega)
                refine vin ?_ ?_
                all_goals (try generalize Int32.toInt (rz ((1800 + (6 * r_46)) + 2).toNatClampNeg) = z0 at *; try generalize Int32.toInt (rz ((6 * k) + 2).toNatClampNeg) = z1 at *; try generalize Int32.toInt (ct (0 : Int32).toNatClampNeg) = z2 at *; try generalize Int32.toInt ((6 * k) + 3) = z3 at *; try generalize Int32.toInt (6 * k) = z4 at *; try generalize Int32.toInt r_46 = z5 at *; try generalize Int32.toInt (0 : Int32) = z6 at *; try generalize Int32.toInt (3 : Int32) = z7 at *; try generalize Int32.toInt (6 : Int32) = z8 at *; try generalize Int32.toInt k = z9 at *; omega)
              refine va_iast hx hb hG.1 hP hD hS 1 2 rfl rfl b_328 dX9_compose_106 (fun H locs hP hD hS => ?_)
              have hP : va_P (dC, dI) vwCl [(h0, .inr (9, [.int 0, .ref a0, .ref a1, .ref a2, .int dc, .ref a3, .int tl, .ref a4, .int xl, .int fo, .int fa, .ref a5, .int mn, .ref a6, .int ft, .ref a7, .int wl])), (a0, .inl (cI, 3600, .inl (upd (upd rz ((6 * k) + 2).toNatClampNeg (-1)) ((6 * k) + 3).toNatClampNeg 0))), (a1, .inl (cI, 2, .inl ct))] H := hP
              have hD : va_D A [(h0, .inr (9, [.int 0, .ref a0, .ref a1, .ref a2, .int dc, .ref a3, .int tl, .ref a4, .int xl, .int fo, .int fa, .ref a5, .int mn, .ref a6, .int ft, .ref a7, .int wl])), (a0, .inl (cI, 3600, .inl (upd (upd rz ((6 * k) + 2).toNatClampNeg (-1)) ((6 * k) + 3).toNatClampNeg 0))), (a1, .inl (cI, 2, .inl ct))] := hD
              refine lv_aload_n hx hb dX9_compose_107 rfl (lv_at hl 3 rfl) ?_
              refine va_get (D := (dC, dI)) (ci := 9) (v := .ref a0) (C := RX9) (T := TX9) (N := 17) hx hb hts inc_X9_compose_9 hown hG.1 hP 0 rfl rfl 1 (by decide) (hts (.fieldLink RX9 13 "MappingDeskModel" "rows" "[I") (by decide +kernel)) (fun _ h9 => h9) rfl dX9_compose_108 ?_
              refine lv_iload_n hx hb dX9_compose_111 rfl (lv_at hl 2 rfl) ?_
              refine lv_iconst (v := 4) hx hb dX9_compose_112 (by decide) ?_
              refine lv_iadd hx hb dX9_compose_113 ?_
              refine lv_iconst (v := 0) hx hb dX9_compose_114 (by decide) ?_
              have b_340 : vp_in ((6 * k) + 4) 3600 := by
                have q_341 := i_nle c_5
                have k_342 : (0 : Int32).toInt = 0 := by decide
                have q_343 := i_le c_14
                have q_344 := i_nlt c_47
                have q_345 := i_nle c_130
                have hq7 := hct (0 : Int32).toNatClampNeg (by decide)
                have k_346 : (6 : Int32).toInt = 6 := by decide
                have t_347 : ((6 * k)).toInt = 6 * (k).toInt := by
                  have z := ti_mul (a := 6) (b := k) (by rw [show (6 : Int32).toInt = 6 from by decide]; omega) (by rw [show (6 : Int32).toInt = 6 from by decide]; omega)
                  rw [z, show (6 : Int32).toInt = 6 from by decide]
                have k_348 : (4 : Int32).toInt = 4 := by decide
                have t_349 := ti_add (a := (6 * k)) (b := 4) (by omega) (by omega)
                refine vin ?_ ?_
                all_goals (try generalize Int32.toInt (rz ((1800 + (6 * r_46)) + 2).toNatClampNeg) = z0 at *; try generalize Int32.toInt (rz ((6 * k) + 2).toNatClampNeg) = z1 at *; try generalize Int32.toInt (ct (0 : Int32).toNatClampNeg) = z2 at *; try generalize Int32.toInt ((6 * k) + 4) = z3 at *; try generalize Int32.toInt (6 * k) = z4 at *; try generalize Int32.toInt r_46 = z5 at *; try generalize Int32.toInt (0 : Int32) = z6 at *; try generalize Int32.toInt (4 : Int32) = z7 at *; try generalize Int32.toInt (6 : Int32) = z8 at *; try generalize Int32.toInt k = z9 at *; omega)
              refine va_iast hx hb hG.1 hP hD hS 1 2 rfl rfl b_340 dX9_compose_115 (fun H locs hP hD hS => ?_)
              have hP : va_P (dC, dI) vwCl [(h0, .inr (9, [.int 0, .ref a0, .ref a1, .ref a2, .int dc, .ref a3, .int tl, .ref a4, .int xl, .int fo, .int fa, .ref a5, .int mn, .ref a6, .int ft, .ref a7, .int wl])), (a0, .inl (cI, 3600, .inl (upd (upd (upd rz ((6 * k) + 2).toNatClampNeg (-1)) ((6 * k) + 3).toNatClampNeg 0) ((6 * k) + 4).toNatClampNeg 0))), (a1, .inl (cI, 2, .inl ct))] H := hP
              have hD : va_D A [(h0, .inr (9, [.int 0, .ref a0, .ref a1, .ref a2, .int dc, .ref a3, .int tl, .ref a4, .int xl, .int fo, .int fa, .ref a5, .int mn, .ref a6, .int ft, .ref a7, .int wl])), (a0, .inl (cI, 3600, .inl (upd (upd (upd rz ((6 * k) + 2).toNatClampNeg (-1)) ((6 * k) + 3).toNatClampNeg 0) ((6 * k) + 4).toNatClampNeg 0))), (a1, .inl (cI, 2, .inl ct))] := hD
              refine lv_aload_n hx hb dX9_compose_116 rfl (lv_at hl 3 rfl) ?_
              refine va_get (D := (dC, dI)) (ci := 9) (v := .ref a0) (C := RX9) (T := TX9) (N := 17) hx hb hts inc_X9_compose_9 hown hG.1 hP 0 rfl rfl 1 (by decide) (hts (.fieldLink RX9 13 "MappingDeskModel" "rows" "[I") (by decide +kernel)) (fun _ h9 => h9) rfl dX9_compose_117 ?_
              refine lv_iload_n hx hb dX9_compose_120 rfl (lv_at hl 2 rfl) ?_
              refine lv_iconst (v := 5) hx hb dX9_compose_121 (by decide) ?_
              refine lv_iadd hx hb dX9_compose_122 ?_
              refine lv_iconst (v := (-1)) hx hb dX9_compose_123 (by decide) ?_
              have b_352 : vp_in ((6 * k) + 5) 3600 := by
                have q_353 := i_nle c_5
                have k_354 : (0 : Int32).toInt = 0 := by decide
                have q_355 := i_le c_14
                have q_356 := i_nlt c_47
                have q_357 := i_nle c_130
                have hq7 := hct (0 : Int32).toNatClampNeg (by decide)
                have k_358 : (6 : Int32).toInt = 6 := by decide
                have t_359 : ((6 * k)).toInt = 6 * (k).toInt := by
                  have z := ti_mul (a := 6) (b := k) (by rw [show (6 : Int32).toInt = 6 from by decide]; omega) (by rw [show (6 : Int32).toInt = 6 from by decide]; omega)
                  rw [z, show (6 : Int32).toInt = 6 from by decide]
                have k_360 : (5 : Int32).toInt = 5 := by decide
                have t_361 := ti_add (a := (6 * k)) (b := 5) (by omega) (by omega)
                refine vin ?_ ?_
                all_goals (try generalize Int32.toInt (rz ((1800 + (6 * r_46)) + 2).toNatClampNeg) = z0 at *; try generalize Int32.toInt (rz ((6 * k) + 2).toNatClampNeg) = z1 at *; try generalize Int32.toInt (ct (0 : Int32).toNatClampNeg) = z2 at *; try generalize Int32.toInt ((6 * k) + 5) = z3 at *; try generalize Int32.toInt (6 * k) = z4 at *; try generalize Int32.toInt r_46 = z5 at *; try generalize Int32.toInt (0 : Int32) = z6 at *; try generalize Int32.toInt (5 : Int32) = z7 at *; try generalize Int32.toInt (6 : Int32) = z8 at *; try generalize Int32.toInt k = z9 at *; omega)
              refine va_iast hx hb hG.1 hP hD hS 1 2 rfl rfl b_352 dX9_compose_124 (fun H locs hP hD hS => ?_)
              have hP : va_P (dC, dI) vwCl [(h0, .inr (9, [.int 0, .ref a0, .ref a1, .ref a2, .int dc, .ref a3, .int tl, .ref a4, .int xl, .int fo, .int fa, .ref a5, .int mn, .ref a6, .int ft, .ref a7, .int wl])), (a0, .inl (cI, 3600, .inl (upd (upd (upd (upd rz ((6 * k) + 2).toNatClampNeg (-1)) ((6 * k) + 3).toNatClampNeg 0) ((6 * k) + 4).toNatClampNeg 0) ((6 * k) + 5).toNatClampNeg (-1)))), (a1, .inl (cI, 2, .inl ct))] H := hP
              have hD : va_D A [(h0, .inr (9, [.int 0, .ref a0, .ref a1, .ref a2, .int dc, .ref a3, .int tl, .ref a4, .int xl, .int fo, .int fa, .ref a5, .int mn, .ref a6, .int ft, .ref a7, .int wl])), (a0, .inl (cI, 3600, .inl (upd (upd (upd (upd rz ((6 * k) + 2).toNatClampNeg (-1)) ((6 * k) + 3).toNatClampNeg 0) ((6 * k) + 4).toNatClampNeg 0) ((6 * k) + 5).toNatClampNeg (-1)))), (a1, .inl (cI, 2, .inl ct))] := hD
              refine lv_goto (tgt := 210) hx hb dX9_compose_125 (by decide) ?_
              refine lv_iinc (v := (k + 1)) (lv' := [(2, .int (k + 1)), (5, .int (1800 + (6 * r_46))), (4, .int r_46), (3, .int (6 * k)), (0, .ref h0), (1, .int te)]) hx hb dX9_compose_210 hl (k := 5) rfl rfl (by decide) rfl (fun ls hl => ?_)
              refine lv_goto (tgt := 9) hx hb dX9_compose_213 (by decide) ?_
              have v_369 : 0 ≤ ((k + 1)).toInt := by
                have q_370 := i_nle c_5
                have k_371 : (0 : Int32).toInt = 0 := by decide
                have q_372 := i_le c_14
                have q_373 := i_nlt c_47
                have q_374 := i_nle c_130
                have hq7 := hct (0 : Int32).toNatClampNeg (by decide)
                have k_375 : (1 : Int32).toInt = 1 := by decide
                have t_376 := ti_add (a := k) (b := 1) (by omega) (by omega)
                try generalize Int32.toInt (rz ((1800 + (6 * r_46)) + 2).toNatClampNeg) = z0 at *
                try generalize Int32.toInt (rz ((6 * k) + 2).toNatClampNeg) = z1 at *
                try generalize Int32.toInt (ct (0 : Int32).toNatClampNeg) = z2 at *
                try generalize Int32.toInt (k + 1) = z3 at *
                try generalize Int32.toInt r_46 = z4 at *
                try generalize Int32.toInt (0 : Int32) = z5 at *
                try generalize Int32.toInt (1 : Int32) = z6 at *
                try generalize Int32.toInt k = z7 at *
                omega
              have v_377 : ((k + 1)).toInt ≤ (ct (0 : Int32).toNatClampNeg).toInt := by
                have q_378 := i_nle c_5
                have k_379 : (0 : Int32).toInt = 0 := by decide
                have q_380 := i_le c_14
                have q_381 := i_nlt c_47
                have q_382 := i_nle c_130
                have hq7 := hct (0 : Int32).toNatClampNeg (by decide)
                have k_383 : (1 : Int32).toInt = 1 := by decide
                have t_384 := ti_add (a := k) (b := 1) (by omega) (by omega)
                try generalize Int32.toInt (rz ((1800 + (6 * r_46)) + 2).toNatClampNeg) = z0 at *
                try generalize Int32.toInt (rz ((6 * k) + 2).toNatClampNeg) = z1 at *
                try generalize Int32.toInt (ct (0 : Int32).toNatClampNeg) = z2 at *
                try generalize Int32.toInt (k + 1) = z3 at *
                try generalize Int32.toInt r_46 = z4 at *
                try generalize Int32.toInt (0 : Int32) = z5 at *
                try generalize Int32.toInt (1 : Int32) = z6 at *
                try generalize Int32.toInt k = z7 at *
                omega
              have v_385 : (ct (0 : Int32).toNatClampNeg).toInt - ((k + 1)).toInt < ((n : Nat) : Int) := by
                have q_386 := i_nle c_5
                have k_387 : (0 : Int32).toInt = 0 := by decide
                have q_388 := i_le c_14
                have q_389 := i_nlt c_47
                have q_390 := i_nle c_130
                have hq7 := hct (0 : Int32).toNatClampNeg (by decide)
                have k_391 : (1 : Int32).toInt = 1 := by decide
                have t_392 := ti_add (a := k) (b := 1) (by omega) (by omega)
                try generalize Int32.toInt (rz ((1800 + (6 * r_46)) + 2).toNatClampNeg) = z0 at *
                try generalize Int32.toInt (rz ((6 * k) + 2).toNatClampNeg) = z1 at *
                try generalize Int32.toInt (ct (0 : Int32).toNatClampNeg) = z2 at *
                try generalize Int32.toInt (k + 1) = z3 at *
                try generalize Int32.toInt r_46 = z4 at *
                try generalize Int32.toInt (0 : Int32) = z5 at *
                try generalize Int32.toInt (1 : Int32) = z6 at *
                try generalize Int32.toInt k = z7 at *
                omega
              exact ih (te) ((k + 1)) ((upd (upd (upd (upd rz ((6 * k) + 2).toNatClampNeg (-1)) ((6 * k) + 3).toNatClampNeg 0) ((6 * k) + 4).toNatClampNeg 0) ((6 * k) + 5).toNatClampNeg (-1))) _ _ ls hR v_369 v_377 v_385 hP hD hS (lv_sub hl [4, 5, 0] rfl)
        · rw [if_neg c_14] at hR
          refine lv_goto (tgt := 210) hx hb dX9_compose_35 (by decide) ?_
          refine lv_iinc (v := (k + 1)) (lv' := [(2, .int (k + 1)), (3, .int (6 * k)), (0, .ref h0), (1, .int te)]) hx hb dX9_compose_210 hl (k := 3) rfl rfl (by decide) rfl (fun ls hl => ?_)
          refine lv_goto (tgt := 9) hx hb dX9_compose_213 (by decide) ?_
          have v_396 : 0 ≤ ((k + 1)).toInt := by
            have q_397 := i_nle c_5
            have k_398 : (0 : Int32).toInt = 0 := by decide
            have q_399 := i_nle c_14
            have hq7 := hct (0 : Int32).toNatClampNeg (by decide)
            have k_400 : (1 : Int32).toInt = 1 := by decide
            have t_401 := ti_add (a := k) (b := 1) (by omega) (by omega)
            try generalize Int32.toInt (rz ((6 * k) + 2).toNatClampNeg) = z0 at *
            try generalize Int32.toInt (ct (0 : Int32).toNatClampNeg) = z1 at *
            try generalize Int32.toInt (k + 1) = z2 at *
            try generalize Int32.toInt (0 : Int32) = z3 at *
            try generalize Int32.toInt (1 : Int32) = z4 at *
            try generalize Int32.toInt k = z5 at *
            omega
          have v_402 : ((k + 1)).toInt ≤ (ct (0 : Int32).toNatClampNeg).toInt := by
            have q_403 := i_nle c_5
            have k_404 : (0 : Int32).toInt = 0 := by decide
            have q_405 := i_nle c_14
            have hq7 := hct (0 : Int32).toNatClampNeg (by decide)
            have k_406 : (1 : Int32).toInt = 1 := by decide
            have t_407 := ti_add (a := k) (b := 1) (by omega) (by omega)
            try generalize Int32.toInt (rz ((6 * k) + 2).toNatClampNeg) = z0 at *
            try generalize Int32.toInt (ct (0 : Int32).toNatClampNeg) = z1 at *
            try generalize Int32.toInt (k + 1) = z2 at *
            try generalize Int32.toInt (0 : Int32) = z3 at *
            try generalize Int32.toInt (1 : Int32) = z4 at *
            try generalize Int32.toInt k = z5 at *
            omega
          have v_408 : (ct (0 : Int32).toNatClampNeg).toInt - ((k + 1)).toInt < ((n : Nat) : Int) := by
            have q_409 := i_nle c_5
            have k_410 : (0 : Int32).toInt = 0 := by decide
            have q_411 := i_nle c_14
            have hq7 := hct (0 : Int32).toNatClampNeg (by decide)
            have k_412 : (1 : Int32).toInt = 1 := by decide
            have t_413 := ti_add (a := k) (b := 1) (by omega) (by omega)
            try generalize Int32.toInt (rz ((6 * k) + 2).toNatClampNeg) = z0 at *
            try generalize Int32.toInt (ct (0 : Int32).toNatClampNeg) = z1 at *
            try generalize Int32.toInt (k + 1) = z2 at *
            try generalize Int32.toInt (0 : Int32) = z3 at *
            try generalize Int32.toInt (1 : Int32) = z4 at *
            try generalize Int32.toInt k = z5 at *
            omega
          exact ih (te) ((k + 1)) (rz) _ _ ls hR v_396 v_402 v_408 hP hD hS (lv_sub hl [2, 3, 0] rfl)
  refine lv_aload_n hx hb dX9_compose_0 rfl (lv_at hl 0 rfl) ?_
  refine lv_iconst (v := 0) hx hb dX9_compose_1 (by decide) ?_
  refine va_put (D := (dC, dI)) (ci := 9) (v := .int 0) (ty := .int) (C := RX9) (T := TX9) (N := 17) hx hb hts inc_X9_compose_9 tyX9 tyX9_ok nmX9 hown hG.1 hP hD hS 0 rfl rfl 0 (by decide) (hts (.fieldLink RX9 7 "MappingDeskModel" "thrownCode" "I") (by decide +kernel)) (fun _ h9 => h9) rfl (by decide +kernel) rfl rfl (Nat.le_of_ble_eq_true rfl) dX9_compose_2 (fun H locs hP hD hS => ?_)
  have hP : va_P (dC, dI) vwCl [(h0, .inr (9, [.int 0, .ref a0, .ref a1, .ref a2, .int dc, .ref a3, .int tl, .ref a4, .int xl, .int fo, .int fa, .ref a5, .int mn, .ref a6, .int ft, .ref a7, .int wl])), (a0, .inl (cI, 3600, .inl rw)), (a1, .inl (cI, 2, .inl ct))] H := hP
  have hD : va_D A [(h0, .inr (9, [.int 0, .ref a0, .ref a1, .ref a2, .int dc, .ref a3, .int tl, .ref a4, .int xl, .int fo, .int fa, .ref a5, .int mn, .ref a6, .int ft, .ref a7, .int wl])), (a0, .inl (cI, 3600, .inl rw)), (a1, .inl (cI, 2, .inl ct))] := hD
  refine lv_iconst (v := 0) hx hb dX9_compose_5 (by decide) ?_
  refine lv_istore_n (lv' := [(1, .int 0), (0, .ref h0)]) hx hb dX9_compose_6 rfl hl (by decide) rfl (fun ls hl => ?_)
  refine lv_iconst (v := 0) hx hb dX9_compose_7 (by decide) ?_
  refine lv_istore_n (lv' := [(2, .int 0), (1, .int 0), (0, .ref h0)]) hx hb dX9_compose_8 rfl hl (by decide) rfl (fun ls hl => ?_)
  have v_414 : 0 ≤ (0 : Int32).toInt := by
    have hq7 := hct (0 : Int32).toNatClampNeg (by decide)
    have k_415 : (0 : Int32).toInt = 0 := by decide
    try generalize Int32.toInt (ct (0 : Int32).toNatClampNeg) = z0 at *
    try generalize Int32.toInt (0 : Int32) = z1 at *
    omega
  have v_416 : (0 : Int32).toInt ≤ (ct (0 : Int32).toNatClampNeg).toInt := by
    have hq7 := hct (0 : Int32).toNatClampNeg (by decide)
    have k_417 : (0 : Int32).toInt = 0 := by decide
    try generalize Int32.toInt (ct (0 : Int32).toNatClampNeg) = z0 at *
    try generalize Int32.toInt (0 : Int32) = z1 at *
    omega
  have v_418 : (ct (0 : Int32).toNatClampNeg).toInt - (0 : Int32).toInt < ((301 : Nat) : Int) := by
    have hq7 := hct (0 : Int32).toNatClampNeg (by decide)
    have k_419 : (0 : Int32).toInt = 0 := by decide
    try generalize Int32.toInt (ct (0 : Int32).toNatClampNeg) = z0 at *
    try generalize Int32.toInt (0 : Int32) = z1 at *
    omega
  exact loop_9 301 (0) (0) (rw) _ _ ls hR v_414 v_416 v_418 hP hD hS (lv_sub hl [2, 1, 0] rfl)

def fX9_put_A (th dc tl xl fo fa mn ft wl : Int32) (rw : Nat → Int32) (ct : Nat → Int32) (x y1 y2 y3 y4 y5 y6 : Int32) : Nat → Nat → Int32 → Int32 → (Nat → Int32) → Int32 × Int32 × (Nat → Int32) × (Nat → Int32)
  | 0, _, _, _, _ => (0, 0, (fun _ => 0), (fun _ => 0))
  | n + 1, hd, k, f, rz =>
    if hd = 110 then
      if k ≤ 0 then
        if 0 ≤ y3 then
          if y3 < 0 then
            (((upd ct x.toNatClampNeg ((ct x.toNatClampNeg) + 1)) x.toNatClampNeg), 0, (upd (upd (upd (upd (upd (upd rz ((1800 * x) + (6 * k)).toNatClampNeg y1) (((1800 * x) + (6 * k)) + 1).toNatClampNeg y2) (((1800 * x) + (6 * k)) + 2).toNatClampNeg y3) (((1800 * x) + (6 * k)) + 3).toNatClampNeg y4) (((1800 * x) + (6 * k)) + 4).toNatClampNeg y5) (((1800 * x) + (6 * k)) + 5).toNatClampNeg (-1)), (upd ct x.toNatClampNeg ((ct x.toNatClampNeg) + 1)))
          else
            if 0 ≤ y6 then
              (((upd ct x.toNatClampNeg ((ct x.toNatClampNeg) + 1)) x.toNatClampNeg), 0, (upd (upd (upd (upd (upd (upd rz ((1800 * x) + (6 * k)).toNatClampNeg y1) (((1800 * x) + (6 * k)) + 1).toNatClampNeg y2) (((1800 * x) + (6 * k)) + 2).toNatClampNeg y3) (((1800 * x) + (6 * k)) + 3).toNatClampNeg y4) (((1800 * x) + (6 * k)) + 4).toNatClampNeg y5) (((1800 * x) + (6 * k)) + 5).toNatClampNeg y6), (upd ct x.toNatClampNeg ((ct x.toNatClampNeg) + 1)))
            else
              (((upd ct x.toNatClampNeg ((ct x.toNatClampNeg) + 1)) x.toNatClampNeg), 0, (upd (upd (upd (upd (upd (upd rz ((1800 * x) + (6 * k)).toNatClampNeg y1) (((1800 * x) + (6 * k)) + 1).toNatClampNeg y2) (((1800 * x) + (6 * k)) + 2).toNatClampNeg y3) (((1800 * x) + (6 * k)) + 3).toNatClampNeg y4) (((1800 * x) + (6 * k)) + 4).toNatClampNeg y5) (((1800 * x) + (6 * k)) + 5).toNatClampNeg (-1)), (upd ct x.toNatClampNeg ((ct x.toNatClampNeg) + 1)))
        else
          if y3 < 0 then
            (((upd ct x.toNatClampNeg ((ct x.toNatClampNeg) + 1)) x.toNatClampNeg), 0, (upd (upd (upd (upd (upd (upd rz ((1800 * x) + (6 * k)).toNatClampNeg y1) (((1800 * x) + (6 * k)) + 1).toNatClampNeg y2) (((1800 * x) + (6 * k)) + 2).toNatClampNeg (-1)) (((1800 * x) + (6 * k)) + 3).toNatClampNeg 0) (((1800 * x) + (6 * k)) + 4).toNatClampNeg 0) (((1800 * x) + (6 * k)) + 5).toNatClampNeg (-1)), (upd ct x.toNatClampNeg ((ct x.toNatClampNeg) + 1)))
          else
            if 0 ≤ y6 then
              (((upd ct x.toNatClampNeg ((ct x.toNatClampNeg) + 1)) x.toNatClampNeg), 0, (upd (upd (upd (upd (upd (upd rz ((1800 * x) + (6 * k)).toNatClampNeg y1) (((1800 * x) + (6 * k)) + 1).toNatClampNeg y2) (((1800 * x) + (6 * k)) + 2).toNatClampNeg (-1)) (((1800 * x) + (6 * k)) + 3).toNatClampNeg 0) (((1800 * x) + (6 * k)) + 4).toNatClampNeg 0) (((1800 * x) + (6 * k)) + 5).toNatClampNeg y6), (upd ct x.toNatClampNeg ((ct x.toNatClampNeg) + 1)))
            else
              (((upd ct x.toNatClampNeg ((ct x.toNatClampNeg) + 1)) x.toNatClampNeg), 0, (upd (upd (upd (upd (upd (upd rz ((1800 * x) + (6 * k)).toNatClampNeg y1) (((1800 * x) + (6 * k)) + 1).toNatClampNeg y2) (((1800 * x) + (6 * k)) + 2).toNatClampNeg (-1)) (((1800 * x) + (6 * k)) + 3).toNatClampNeg 0) (((1800 * x) + (6 * k)) + 4).toNatClampNeg 0) (((1800 * x) + (6 * k)) + 5).toNatClampNeg (-1)), (upd ct x.toNatClampNeg ((ct x.toNatClampNeg) + 1)))
      else
        bnd (fX9_isBefore 0 dc tl xl fo fa mn ft wl rz ((1800 * x) + (6 * (k - 1))) y1 y2) fun r_411 =>
        if r_411 = 0 then
          if 0 ≤ y3 then
            if y3 < 0 then
              (((upd ct x.toNatClampNeg ((ct x.toNatClampNeg) + 1)) x.toNatClampNeg), 0, (upd (upd (upd (upd (upd (upd rz ((1800 * x) + (6 * k)).toNatClampNeg y1) (((1800 * x) + (6 * k)) + 1).toNatClampNeg y2) (((1800 * x) + (6 * k)) + 2).toNatClampNeg y3) (((1800 * x) + (6 * k)) + 3).toNatClampNeg y4) (((1800 * x) + (6 * k)) + 4).toNatClampNeg y5) (((1800 * x) + (6 * k)) + 5).toNatClampNeg (-1)), (upd ct x.toNatClampNeg ((ct x.toNatClampNeg) + 1)))
            else
              if 0 ≤ y6 then
                (((upd ct x.toNatClampNeg ((ct x.toNatClampNeg) + 1)) x.toNatClampNeg), 0, (upd (upd (upd (upd (upd (upd rz ((1800 * x) + (6 * k)).toNatClampNeg y1) (((1800 * x) + (6 * k)) + 1).toNatClampNeg y2) (((1800 * x) + (6 * k)) + 2).toNatClampNeg y3) (((1800 * x) + (6 * k)) + 3).toNatClampNeg y4) (((1800 * x) + (6 * k)) + 4).toNatClampNeg y5) (((1800 * x) + (6 * k)) + 5).toNatClampNeg y6), (upd ct x.toNatClampNeg ((ct x.toNatClampNeg) + 1)))
              else
                (((upd ct x.toNatClampNeg ((ct x.toNatClampNeg) + 1)) x.toNatClampNeg), 0, (upd (upd (upd (upd (upd (upd rz ((1800 * x) + (6 * k)).toNatClampNeg y1) (((1800 * x) + (6 * k)) + 1).toNatClampNeg y2) (((1800 * x) + (6 * k)) + 2).toNatClampNeg y3) (((1800 * x) + (6 * k)) + 3).toNatClampNeg y4) (((1800 * x) + (6 * k)) + 4).toNatClampNeg y5) (((1800 * x) + (6 * k)) + 5).toNatClampNeg (-1)), (upd ct x.toNatClampNeg ((ct x.toNatClampNeg) + 1)))
          else
            if y3 < 0 then
              (((upd ct x.toNatClampNeg ((ct x.toNatClampNeg) + 1)) x.toNatClampNeg), 0, (upd (upd (upd (upd (upd (upd rz ((1800 * x) + (6 * k)).toNatClampNeg y1) (((1800 * x) + (6 * k)) + 1).toNatClampNeg y2) (((1800 * x) + (6 * k)) + 2).toNatClampNeg (-1)) (((1800 * x) + (6 * k)) + 3).toNatClampNeg 0) (((1800 * x) + (6 * k)) + 4).toNatClampNeg 0) (((1800 * x) + (6 * k)) + 5).toNatClampNeg (-1)), (upd ct x.toNatClampNeg ((ct x.toNatClampNeg) + 1)))
            else
              if 0 ≤ y6 then
                (((upd ct x.toNatClampNeg ((ct x.toNatClampNeg) + 1)) x.toNatClampNeg), 0, (upd (upd (upd (upd (upd (upd rz ((1800 * x) + (6 * k)).toNatClampNeg y1) (((1800 * x) + (6 * k)) + 1).toNatClampNeg y2) (((1800 * x) + (6 * k)) + 2).toNatClampNeg (-1)) (((1800 * x) + (6 * k)) + 3).toNatClampNeg 0) (((1800 * x) + (6 * k)) + 4).toNatClampNeg 0) (((1800 * x) + (6 * k)) + 5).toNatClampNeg y6), (upd ct x.toNatClampNeg ((ct x.toNatClampNeg) + 1)))
              else
                (((upd ct x.toNatClampNeg ((ct x.toNatClampNeg) + 1)) x.toNatClampNeg), 0, (upd (upd (upd (upd (upd (upd rz ((1800 * x) + (6 * k)).toNatClampNeg y1) (((1800 * x) + (6 * k)) + 1).toNatClampNeg y2) (((1800 * x) + (6 * k)) + 2).toNatClampNeg (-1)) (((1800 * x) + (6 * k)) + 3).toNatClampNeg 0) (((1800 * x) + (6 * k)) + 4).toNatClampNeg 0) (((1800 * x) + (6 * k)) + 5).toNatClampNeg (-1)), (upd ct x.toNatClampNeg ((ct x.toNatClampNeg) + 1)))
        else
          fX9_put_A th dc tl xl fo fa mn ft wl rw ct x y1 y2 y3 y4 y5 y6 n 137 k 0 rz
    else 
      if 6 ≤ f then
        fX9_put_A th dc tl xl fo fa mn ft wl rw ct x y1 y2 y3 y4 y5 y6 n 110 (k + (-1)) 0 rz
      else
        fX9_put_A th dc tl xl fo fa mn ft wl rw ct x y1 y2 y3 y4 y5 y6 n 137 k (f + 1) (upd rz (((1800 * x) + (6 * k)) + f).toNatClampNeg (rz (((1800 * x) + (6 * (k - 1))) + f).toNatClampNeg))
def fX9_put (th dc tl xl fo fa mn ft wl : Int32) (rw : Nat → Int32) (ct : Nat → Int32) (x y1 y2 y3 y4 y5 y6 : Int32) : Int32 × Int32 × (Nat → Int32) × (Nat → Int32) :=
  if x < 0 then
    ((-1), 0, rw, ct)
  else
    if 1 < x then
      ((-1), 0, rw, ct)
    else
      bnd (fX9_within ((y1 : Int32).toInt64) 199) fun r_931 =>
      if r_931 = 0 then
        ((-1), 0, rw, ct)
      else
        bnd (fX9_within ((y2 : Int32).toInt64) 999999) fun r_933 =>
        if r_933 = 0 then
          ((-1), 0, rw, ct)
        else
          if (ct x.toNatClampNeg) = 300 then
            ((-1), 0, rw, ct)
          else
            if y3 < 0 then
              fX9_put_A th dc tl xl fo fa mn ft wl rw ct x y1 y2 y3 y4 y5 y6 2500 110 (ct x.toNatClampNeg) 0 rw
            else
              if 99 < y3 then
                ((-1), 0, rw, ct)
              else
                bnd (fX9_within ((y4 : Int32).toInt64) 999999) fun r_1028 =>
                if r_1028 = 0 then
                  ((-1), 0, rw, ct)
                else
                  bnd (fX9_within ((y5 : Int32).toInt64) 999999) fun r_1030 =>
                  if r_1030 = 0 then
                    ((-1), 0, rw, ct)
                  else
                    if y6 ≤ 99 then
                      fX9_put_A th dc tl xl fo fa mn ft wl rw ct x y1 y2 y3 y4 y5 y6 2500 110 (ct x.toNatClampNeg) 0 rw
                    else
                      ((-1), 0, rw, ct)
theorem inc_X9_put_9 : ∀ w ∈ u_ws RX9 TX9 17, w ∈ wsX9_put := by decide +kernel
set_option maxHeartbeats 4000000 in
set_option maxRecDepth 100000 in
theorem c_X9_put (l : Launch) (dC : Nat → ClassId) (dI : Nat → Nat → Nat) (cB cC cI cJ : ClassId) (sz : Nat) (h0 a0 a1 a2 a3 a4 a5 a6 a7 : Nat) (th dc tl xl fo fa mn ft wl : Int32) (rw : Nat → Int32) (ct : Nat → Int32) (x y1 y2 y3 y4 y5 y6 : Int32) (hct : ∀ j : Nat, j < 2 → 0 ≤ (ct j).toInt ∧ (ct j).toInt ≤ 300) : Met l yX9_put wsX9_put ({ frames := 1, cells := 0, slots := 0, locals := 23 } : Room) (cP dC dI cB cC cI cJ [.ref h0, .int x, .int y1, .int y2, .int y3, .int y4, .int y5, .int y6] sz [(h0, .inr (9, [.int th, .ref a0, .ref a1, .ref a2, .int dc, .ref a3, .int tl, .ref a4, .int xl, .int fo, .int fa, .ref a5, .int mn, .ref a6, .int ft, .ref a7, .int wl])), (a0, .inl (cI, 3600, .inl rw)), (a1, .inl (cI, 2, .inl ct))]) (va_Qi (fun r _ => r = (fX9_put th dc tl xl fo fa mn ft wl rw ct x y1 y2 y3 y4 y5 y6).1) (cE dC dI (va_A [(h0, .inr (9, [.int th, .ref a0, .ref a1, .ref a2, .int dc, .ref a3, .int tl, .ref a4, .int xl, .int fo, .int fa, .ref a5, .int mn, .ref a6, .int ft, .ref a7, .int wl])), (a0, .inl (cI, 3600, .inl rw)), (a1, .inl (cI, 2, .inl ct))] sz) [(h0, .inr (9, [.int (fX9_put th dc tl xl fo fa mn ft wl rw ct x y1 y2 y3 y4 y5 y6).2.1, .ref a0, .ref a1, .ref a2, .int dc, .ref a3, .int tl, .ref a4, .int xl, .int fo, .int fa, .ref a5, .int mn, .ref a6, .int ft, .ref a7, .int wl])), (a0, .inl (cI, 3600, .inl (fX9_put th dc tl xl fo fa mn ft wl rw ct x y1 y2 y3 y4 y5 y6).2.2.1)), (a1, .inl (cI, 2, .inl (fX9_put th dc tl xl fo fa mn ft wl rw ct x y1 y2 y3 y4 y5 y6).2.2.2))]) (va_A [(h0, .inr (9, [.int th, .ref a0, .ref a1, .ref a2, .int dc, .ref a3, .int tl, .ref a4, .int xl, .int fo, .int fa, .ref a5, .int mn, .ref a6, .int ft, .ref a7, .int wl])), (a0, .inl (cI, 3600, .inl rw)), (a1, .inl (cI, 2, .inl ct))] sz)) 0 0 (va_A [(h0, .inr (9, [.int th, .ref a0, .ref a1, .ref a2, .int dc, .ref a3, .int tl, .ref a4, .int xl, .int fo, .int fa, .ref a5, .int mn, .ref a6, .int ft, .ref a7, .int wl])), (a0, .inl (cI, 3600, .inl rw)), (a1, .inl (cI, 2, .inl ct))] sz) := by
  refine Met.ofW (cc := cX9_put) (maxL := 11) (ret := (some .int)) (by decide) rfl ?_
  intro p e s m args below meth c s₁ B hml hv
  obtain ⟨rfl, hsz, hP, hG, hD0⟩ := hv
  have hx := B.exec
  have hb := B.bytes
  have hr := B.returns
  have hts := atoms_spec (ws := wsX9_put) B.pre
  have hown : s.vm.findClass RX9 = some m.cls := findClass_of_methodNamed B.named
  have hlocks := B.notSynchronized
  subst hsz
  have hD := hD0.self (sz := s.heap.size)
  generalize hAe : va_A [(h0, .inr (9, [.int th, .ref a0, .ref a1, .ref a2, .int dc, .ref a3, .int tl, .ref a4, .int xl, .int fo, .int fa, .ref a5, .int mn, .ref a6, .int ft, .ref a7, .int wl])), (a0, .inl (cI, 3600, .inl rw)), (a1, .inl (cI, 2, .inl ct))] s.heap.size = A at hD ⊢
  have hA : ∀ q : Nat, s.heap.size ≤ q → A q := fun q h => by rw [← hAe]; exact Or.inr h
  obtain ⟨H, hH⟩ : ∃ H : Heap, H = s.heap := ⟨_, rfl⟩
  have hS : va_S A s.heap H [] := by rw [hH]; exact va_S.rf
  rw [← hH] at hP ⊢
  generalize hR : fX9_put th dc tl xl fo fa mn ft wl rw ct x y1 y2 y3 y4 y5 y6 = R
  unfold fX9_put at hR
  have hl := lv_entry ([.ref h0, .int x, .int y1, .int y2, .int y3, .int y4, .int y5, .int y6]) (n := 11) (Nat.le_of_ble_eq_true rfl)
  rw [lg_entry_eq]
  generalize (lg_sl ([.ref h0, .int x, .int y1, .int y2, .int y3, .int y4, .int y5, .int y6]) ++ List.replicate (11 - (lg_sl ([.ref h0, .int x, .int y1, .int y2, .int y3, .int y4, .int y5, .int y6])).length) Slot.unset).toArray = ls at hl ⊢
  have hl : lv_has ls 11 [(0, .ref h0), (1, .int x), (2, .int y1), (3, .int y2), (4, .int y3), (5, .int y4), (6, .int y5), (7, .int y6)] := hl
  have loops_A : ∀ (n : Nat), (∀ (k : Int32) (f : Int32) (rz : Nat → Int32) (H : Heap) (locs : List Loc) (ls : Array Slot), fX9_put_A th dc tl xl fo fa mn ft wl rw ct x y1 y2 y3 y4 y5 y6 n 110 k f rz = R → (0 ≤ x.toInt) → (x.toInt ≤ 1) → (k.toInt ≤ (ct x.toNatClampNeg).toInt) → ((ct x.toNatClampNeg).toInt ≤ 299) → (0 ≤ k.toInt) → (8 * k.toInt + 7 < ((n : Nat) : Int)) → va_P (dC, dI) vwCl [(h0, .inr (9, [.int 0, .ref a0, .ref a1, .ref a2, .int dc, .ref a3, .int tl, .ref a4, .int xl, .int fo, .int fa, .ref a5, .int mn, .ref a6, .int ft, .ref a7, .int wl])), (a0, .inl (cI, 3600, .inl rz)), (a1, .inl (cI, 2, .inl ct))] H → va_D A [(h0, .inr (9, [.int 0, .ref a0, .ref a1, .ref a2, .int dc, .ref a3, .int tl, .ref a4, .int xl, .int fo, .int fa, .ref a5, .int mn, .ref a6, .int ft, .ref a7, .int wl])), (a0, .inl (cI, 3600, .inl rz)), (a1, .inl (cI, 2, .inl ct))] → va_S A s.heap H locs → lv_has ls 11 [(0, .ref h0), (1, .int x), (2, .int y1), (3, .int y2), (4, .int y3), (5, .int y4), (6, .int y5), (7, .int y6), (8, .int (1800 * x)), (9, .int k)] → W p l e (headSpec wsX9_put ({ frames := 1, cells := 0, slots := 0, locals := 23 } : Room)).room s m ([.ref h0, .int x, .int y1, .int y2, .int y3, .int y4, .int y5, .int y6] : List Value).toArray below meth c H locs 0 0 (MQ below (va_Qi (fun r _ => r = R.1) (cE dC dI (A) [(h0, .inr (9, [.int R.2.1, .ref a0, .ref a1, .ref a2, .int dc, .ref a3, .int tl, .ref a4, .int xl, .int fo, .int fa, .ref a5, .int mn, .ref a6, .int ft, .ref a7, .int wl])), (a0, .inl (cI, 3600, .inl R.2.2.1)), (a1, .inl (cI, 2, .inl R.2.2.2))]) (A)) ([.ref h0, .int x, .int y1, .int y2, .int y3, .int y4, .int y5, .int y6] : List Value).toArray s 0 0 A) (F0 m 110 ls [])) ∧ (∀ (k : Int32) (f : Int32) (rz : Nat → Int32) (H : Heap) (locs : List Loc) (ls : Array Slot), fX9_put_A th dc tl xl fo fa mn ft wl rw ct x y1 y2 y3 y4 y5 y6 n 137 k f rz = R → (0 ≤ x.toInt) → (x.toInt ≤ 1) → (k.toInt ≤ (ct x.toNatClampNeg).toInt) → ((ct x.toNatClampNeg).toInt ≤ 299) → (1 ≤ k.toInt) → (0 ≤ f.toInt) → (f.toInt ≤ 6) → (8 * k.toInt + 6 - f.toInt < ((n : Nat) : Int)) → va_P (dC, dI) vwCl [(h0, .inr (9, [.int 0, .ref a0, .ref a1, .ref a2, .int dc, .ref a3, .int tl, .ref a4, .int xl, .int fo, .int fa, .ref a5, .int mn, .ref a6, .int ft, .ref a7, .int wl])), (a0, .inl (cI, 3600, .inl rz)), (a1, .inl (cI, 2, .inl ct))] H → va_D A [(h0, .inr (9, [.int 0, .ref a0, .ref a1, .ref a2, .int dc, .ref a3, .int tl, .ref a4, .int xl, .int fo, .int fa, .ref a5, .int mn, .ref a6, .int ft, .ref a7, .int wl])), (a0, .inl (cI, 3600, .inl rz)), (a1, .inl (cI, 2, .inl ct))] → va_S A s.heap H locs → lv_has ls 11 [(0, .ref h0), (1, .int x), (2, .int y1), (3, .int y2), (4, .int y3), (5, .int y4), (6, .int y5), (7, .int y6), (8, .int (1800 * x)), (9, .int k), (10, .int f)] → W p l e (headSpec wsX9_put ({ frames := 1, cells := 0, slots := 0, locals := 23 } : Room)).room s m ([.ref h0, .int x, .int y1, .int y2, .int y3, .int y4, .int y5, .int y6] : List Value).toArray below meth c H locs 0 0 (MQ below (va_Qi (fun r _ => r = R.1) (cE dC dI (A) [(h0, .inr (9, [.int R.2.1, .ref a0, .ref a1, .ref a2, .int dc, .ref a3, .int tl, .ref a4, .int xl, .int fo, .int fa, .ref a5, .int mn, .ref a6, .int ft, .ref a7, .int wl])), (a0, .inl (cI, 3600, .inl R.2.2.1)), (a1, .inl (cI, 2, .inl R.2.2.2))]) (A)) ([.ref h0, .int x, .int y1, .int y2, .int y3, .int y4, .int y5, .int y6] : List Value).toArray s 0 0 A) (F0 m 137 ls [])) := by
    intro n
    induction n with
    | zero =>
      refine ⟨?_, ?_⟩
      · intro k f rz H locs ls hR hx0 hx1 hk1 hc9 hk0 hmu; exfalso; omega
      · intro k f rz H locs ls hR hx0 hx1 hk1 hc9 hk0 hf0 hf1 hmu; exfalso; omega
    | succ n ih =>
      obtain ⟨ih_110, ih_137⟩ := ih
      refine ⟨?_, ?_⟩
      · intro k f rz H locs ls hR hx0 hx1 hk1 hc9 hk0 hmu hP hD hS hl
        rw [fX9_put_A] at hR
        rw [if_pos rfl] at hR
        refine lv_iload hx hb dX9_put_110 (lv_at hl 9 rfl) ?_
        refine lv_if_le (tgt := 190) hx hb dX9_put_112 (by decide) (fun c_1 => ?_) (fun c_1 => ?_)
        · rw [if_pos c_1] at hR
          refine lv_iload hx hb dX9_put_190 (lv_at hl 8 rfl) ?_
          refine lv_bipush (v := 6) hx hb dX9_put_192 (by decide) ?_
          refine lv_iload hx hb dX9_put_194 (lv_at hl 9 rfl) ?_
          refine lv_imul hx hb dX9_put_196 ?_
          refine lv_iadd hx hb dX9_put_197 ?_
          refine lv_istore (lv' := [(10, .int ((1800 * x) + (6 * k))), (0, .ref h0), (1, .int x), (2, .int y1), (3, .int y2), (4, .int y3), (5, .int y4), (6, .int y5), (7, .int y6), (8, .int (1800 * x)), (9, .int k)]) hx hb dX9_put_198 hl (by decide) rfl (fun ls hl => ?_)
          refine lv_aload_n hx hb dX9_put_200 rfl (lv_at hl 1 rfl) ?_
          refine va_get (D := (dC, dI)) (ci := 9) (v := .ref a0) (C := RX9) (T := TX9) (N := 17) hx hb hts inc_X9_put_9 hown hG.1 hP 0 rfl rfl 1 (by decide) (hts (.fieldLink RX9 13 "MappingDeskModel" "rows" "[I") (by decide +kernel)) (fun _ h9 => h9) rfl dX9_put_201 ?_
          refine lv_iload hx hb dX9_put_204 (lv_at hl 0 rfl) ?_
          refine lv_iload_n hx hb dX9_put_206 rfl (lv_at hl 3 rfl) ?_
          have b_2 : vp_in ((1800 * x) + (6 * k)) 3600 := by
            have k_3 : (0 : Int32).toInt = 0 := by decide
            have q_4 := i_le c_1
            try have hq7 := hct x.toNatClampNeg (cl_lt (by omega) (by omega))
            have k_5 : (1800 : Int32).toInt = 1800 := by decide
            have t_6 : ((1800 * x)).toInt = 1800 * (x).toInt := by
              have z := ti_mul (a := 1800) (b := x) (by rw [show (1800 : Int32).toInt = 1800 from by decide]; omega) (by rw [show (1800 : Int32).toInt = 1800 from by decide]; omega)
              rw [z, show (1800 : Int32).toInt = 1800 from by decide]
            have k_7 : (6 : Int32).toInt = 6 := by decide
            have t_8 : ((6 * k)).toInt = 6 * (k).toInt := by
              have z := ti_mul (a := 6) (b := k) (by rw [show (6 : Int32).toInt = 6 from by decide]; omega) (by rw [show (6 : Int32).toInt = 6 from by decide]; omega)
              rw [z, show (6 : Int32).toInt = 6 from by decide]
            have t_9 := ti_add (a := (1800 * x)) (b := (6 * k)) (by omega) (by omega)
            refine vin ?_ ?_
            all_goals (try generalize Int32.toInt ((1800 * x) + (6 * k)) = z0 at *; try generalize Int32.toInt (ct x.toNatClampNeg) = z1 at *; try generalize Int32.toInt (1800 * x) = z2 at *; try generalize Int32.toInt (6 * k) = z3 at *; try generalize Int32.toInt (1800 : Int32) = z4 at *; try generalize Int32.toInt (0 : Int32) = z5 at *; try generalize Int32.toInt (6 : Int32) = z6 at *; try generalize Int32.toInt k = z7 at *; try generalize Int32.toInt x = z8 at *; omega)
          refine va_iast hx hb hG.1 hP hD hS 1 2 rfl rfl b_2 dX9_put_207 (fun H locs hP hD hS => ?_)
          have hP : va_P (dC, dI) vwCl [(h0, .inr (9, [.int 0, .ref a0, .ref a1, .ref a2, .int dc, .ref a3, .int tl, .ref a4, .int xl, .int fo, .int fa, .ref a5, .int mn, .ref a6, .int ft, .ref a7, .int wl])), (a0, .inl (cI, 3600, .inl (upd rz ((1800 * x) + (6 * k)).toNatClampNeg y1))), (a1, .inl (cI, 2, .inl ct))] H := hP
          have hD : va_D A [(h0, .inr (9, [.int 0, .ref a0, .ref a1, .ref a2, .int dc, .ref a3, .int tl, .ref a4, .int xl, .int fo, .int fa, .ref a5, .int mn, .ref a6, .int ft, .ref a7, .int wl])), (a0, .inl (cI, 3600, .inl (upd rz ((1800 * x) + (6 * k)).toNatClampNeg y1))), (a1, .inl (cI, 2, .inl ct))] := hD
          refine lv_aload_n hx hb dX9_put_208 rfl (lv_at hl 1 rfl) ?_
          refine va_get (D := (dC, dI)) (ci := 9) (v := .ref a0) (C := RX9) (T := TX9) (N := 17) hx hb hts inc_X9_put_9 hown hG.1 hP 0 rfl rfl 1 (by decide) (hts (.fieldLink RX9 13 "MappingDeskModel" "rows" "[I") (by decide +kernel)) (fun _ h9 => h9) rfl dX9_put_209 ?_
          refine lv_iload hx hb dX9_put_212 (lv_at hl 0 rfl) ?_
          refine lv_iconst (v := 1) hx hb dX9_put_214 (by decide) ?_
          refine lv_iadd hx hb dX9_put_215 ?_
          refine lv_iload_n hx hb dX9_put_216 rfl (lv_at hl 4 rfl) ?_
          have b_12 : vp_in (((1800 * x) + (6 * k)) + 1) 3600 := by
            have k_13 : (0 : Int32).toInt = 0 := by decide
            have q_14 := i_le c_1
            try have hq7 := hct x.toNatClampNeg (cl_lt (by omega) (by omega))
            have k_15 : (1800 : Int32).toInt = 1800 := by decide
            have t_16 : ((1800 * x)).toInt = 1800 * (x).toInt := by
              have z := ti_mul (a := 1800) (b := x) (by rw [show (1800 : Int32).toInt = 1800 from by decide]; omega) (by rw [show (1800 : Int32).toInt = 1800 from by decide]; omega)
              rw [z, show (1800 : Int32).toInt = 1800 from by decide]
            have k_17 : (6 : Int32).toInt = 6 := by decide
            have t_18 : ((6 * k)).toInt = 6 * (k).toInt := by
              have z := ti_mul (a := 6) (b := k) (by rw [show (6 : Int32).toInt = 6 from by decide]; omega) (by rw [show (6 : Int32).toInt = 6 from by decide]; omega)
              rw [z, show (6 : Int32).toInt = 6 from by decide]
            have t_19 := ti_add (a := (1800 * x)) (b := (6 * k)) (by omega) (by omega)
            have k_20 : (1 : Int32).toInt = 1 := by decide
            have t_21 := ti_add (a := ((1800 * x) + (6 * k))) (b := 1) (by omega) (by omega)
            refine vin ?_ ?_
            all_goals (try generalize Int32.toInt (((1800 * x) + (6 * k)) + 1) = z0 at *; try generalize Int32.toInt ((1800 * x) + (6 * k)) = z1 at *; try generalize Int32.toInt (ct x.toNatClampNeg) = z2 at *; try generalize Int32.toInt (1800 * x) = z3 at *; try generalize Int32.toInt (6 * k) = z4 at *; try generalize Int32.toInt (1800 : Int32) = z5 at *; try generalize Int32.toInt (0 : Int32) = z6 at *; try generalize Int32.toInt (1 : Int32) = z7 at *; try generalize Int32.toInt (6 : Int32) = z8 at *; try generalize Int32.toInt k = z9 at *; try generalize Int32.toInt x = z10 at *; omega)
          refine va_iast hx hb hG.1 hP hD hS 1 2 rfl rfl b_12 dX9_put_217 (fun H locs hP hD hS => ?_)
          have hP : va_P (dC, dI) vwCl [(h0, .inr (9, [.int 0, .ref a0, .ref a1, .ref a2, .int dc, .ref a3, .int tl, .ref a4, .int xl, .int fo, .int fa, .ref a5, .int mn, .ref a6, .int ft, .ref a7, .int wl])), (a0, .inl (cI, 3600, .inl (upd (upd rz ((1800 * x) + (6 * k)).toNatClampNeg y1) (((1800 * x) + (6 * k)) + 1).toNatClampNeg y2))), (a1, .inl (cI, 2, .inl ct))] H := hP
          have hD : va_D A [(h0, .inr (9, [.int 0, .ref a0, .ref a1, .ref a2, .int dc, .ref a3, .int tl, .ref a4, .int xl, .int fo, .int fa, .ref a5, .int mn, .ref a6, .int ft, .ref a7, .int wl])), (a0, .inl (cI, 3600, .inl (upd (upd rz ((1800 * x) + (6 * k)).toNatClampNeg y1) (((1800 * x) + (6 * k)) + 1).toNatClampNeg y2))), (a1, .inl (cI, 2, .inl ct))] := hD
          refine lv_aload_n hx hb dX9_put_218 rfl (lv_at hl 1 rfl) ?_
          refine va_get (D := (dC, dI)) (ci := 9) (v := .ref a0) (C := RX9) (T := TX9) (N := 17) hx hb hts inc_X9_put_9 hown hG.1 hP 0 rfl rfl 1 (by decide) (hts (.fieldLink RX9 13 "MappingDeskModel" "rows" "[I") (by decide +kernel)) (fun _ h9 => h9) rfl dX9_put_219 ?_
          refine lv_iload hx hb dX9_put_222 (lv_at hl 0 rfl) ?_
          refine lv_iconst (v := 2) hx hb dX9_put_224 (by decide) ?_
          refine lv_iadd hx hb dX9_put_225 ?_
          refine lv_iload hx hb dX9_put_226 (lv_at hl 5 rfl) ?_
          refine lv_if_ge (tgt := 235) hx hb dX9_put_228 (by decide) (fun c_24 => ?_) (fun c_24 => ?_)
          · rw [if_pos c_24] at hR
            refine lv_iload hx hb dX9_put_235 (lv_at hl 5 rfl) ?_
            have b_25 : vp_in (((1800 * x) + (6 * k)) + 2) 3600 := by
              have k_26 : (0 : Int32).toInt = 0 := by decide
              have q_27 := i_le c_1
              have q_28 := i_le c_24
              try have hq7 := hct x.toNatClampNeg (cl_lt (by omega) (by omega))
              have k_29 : (1800 : Int32).toInt = 1800 := by decide
              have t_30 : ((1800 * x)).toInt = 1800 * (x).toInt := by
                have z := ti_mul (a := 1800) (b := x) (by rw [show (1800 : Int32).toInt = 1800 from by decide]; omega) (by rw [show (1800 : Int32).toInt = 1800 from by decide]; omega)
                rw [z, show (1800 : Int32).toInt = 1800 from by decide]
              have k_31 : (6 : Int32).toInt = 6 := by decide
              have t_32 : ((6 * k)).toInt = 6 * (k).toInt := by
                have z := ti_mul (a := 6) (b := k) (by rw [show (6 : Int32).toInt = 6 from by decide]; omega) (by rw [show (6 : Int32).toInt = 6 from by decide]; omega)
                rw [z, show (6 : Int32).toInt = 6 from by decide]
              have t_33 := ti_add (a := (1800 * x)) (b := (6 * k)) (by omega) (by omega)
              have k_34 : (2 : Int32).toInt = 2 := by decide
              have t_35 := ti_add (a := ((1800 * x) + (6 * k))) (b := 2) (by omega) (by omega)
              refine vin ?_ ?_
              all_goals (try generalize Int32.toInt (((1800 * x) + (6 * k)) + 2) = z0 at *; try generalize Int32.toInt ((1800 * x) + (6 * k)) = z1 at *; try generalize Int32.toInt (ct x.toNatClampNeg) = z2 at *; try generalize Int32.toInt (1800 * x) = z3 at *; try generalize Int32.toInt (6 * k) = z4 at *; try generalize Int32.toInt (1800 : Int32) = z5 at *; try generalize Int32.toInt y3 = z6 at *; try generalize Int32.toInt (0 : Int32) = z7 at *; try generalize Int32.toInt (2 : Int32) = z8 at *; try generalize Int32.toInt (6 : Int32) = z9 at *; try generalize Int32.toInt k = z10 at *; try generalize Int32.toInt x = z11 at *; omega)
            refine va_iast hx hb hG.1 hP hD hS 1 2 rfl rfl b_25 dX9_put_237 (fun H locs hP hD hS => ?_)
            have hP : va_P (dC, dI) vwCl [(h0, .inr (9, [.int 0, .ref a0, .ref a1, .ref a2, .int dc, .ref a3, .int tl, .ref a4, .int xl, .int fo, .int fa, .ref a5, .int mn, .ref a6, .int ft, .ref a7, .int wl])), (a0, .inl (cI, 3600, .inl (upd (upd (upd rz ((1800 * x) + (6 * k)).toNatClampNeg y1) (((1800 * x) + (6 * k)) + 1).toNatClampNeg y2) (((1800 * x) + (6 * k)) + 2).toNatClampNeg y3))), (a1, .inl (cI, 2, .inl ct))] H := hP
            have hD : va_D A [(h0, .inr (9, [.int 0, .ref a0, .ref a1, .ref a2, .int dc, .ref a3, .int tl, .ref a4, .int xl, .int fo, .int fa, .ref a5, .int mn, .ref a6, .int ft, .ref a7, .int wl])), (a0, .inl (cI, 3600, .inl (upd (upd (upd rz ((1800 * x) + (6 * k)).toNatClampNeg y1) (((1800 * x) + (6 * k)) + 1).toNatClampNeg y2) (((1800 * x) + (6 * k)) + 2).toNatClampNeg y3))), (a1, .inl (cI, 2, .inl ct))] := hD
            refine lv_aload_n hx hb dX9_put_238 rfl (lv_at hl 1 rfl) ?_
            refine va_get (D := (dC, dI)) (ci := 9) (v := .ref a0) (C := RX9) (T := TX9) (N := 17) hx hb hts inc_X9_put_9 hown hG.1 hP 0 rfl rfl 1 (by decide) (hts (.fieldLink RX9 13 "MappingDeskModel" "rows" "[I") (by decide +kernel)) (fun _ h9 => h9) rfl dX9_put_239 ?_
            refine lv_iload hx hb dX9_put_242 (lv_at hl 0 rfl) ?_
            refine lv_iconst (v := 3) hx hb dX9_put_244 (by decide) ?_
            refine lv_iadd hx hb dX9_put_245 ?_
            refine lv_iload hx hb dX9_put_246 (lv_at hl 5 rfl) ?_
            refine lv_if_ge (tgt := 255) hx hb dX9_put_248 (by decide) (fun c_38 => ?_) (fun c_38 => ?_)
            · refine lv_iload hx hb dX9_put_255 (lv_at hl 6 rfl) ?_
              have b_39 : vp_in (((1800 * x) + (6 * k)) + 3) 3600 := by
                have k_40 : (0 : Int32).toInt = 0 := by decide
                have q_41 := i_le c_1
                have q_42 := i_le c_24
                have q_43 := i_le c_38
                try have hq7 := hct x.toNatClampNeg (cl_lt (by omega) (by omega))
                have k_44 : (1800 : Int32).toInt = 1800 := by decide
                have t_45 : ((1800 * x)).toInt = 1800 * (x).toInt := by
                  have z := ti_mul (a := 1800) (b := x) (by rw [show (1800 : Int32).toInt = 1800 from by decide]; omega) (by rw [show (1800 : Int32).toInt = 1800 from by decide]; omega)
                  rw [z, show (1800 : Int32).toInt = 1800 from by decide]
                have k_46 : (6 : Int32).toInt = 6 := by decide
                have t_47 : ((6 * k)).toInt = 6 * (k).toInt := by
                  have z := ti_mul (a := 6) (b := k) (by rw [show (6 : Int32).toInt = 6 from by decide]; omega) (by rw [show (6 : Int32).toInt = 6 from by decide]; omega)
                  rw [z, show (6 : Int32).toInt = 6 from by decide]
                have t_48 := ti_add (a := (1800 * x)) (b := (6 * k)) (by omega) (by omega)
                have k_49 : (3 : Int32).toInt = 3 := by decide
                have t_50 := ti_add (a := ((1800 * x) + (6 * k))) (b := 3) (by omega) (by omega)
                refine vin ?_ ?_
                all_goals (try generalize Int32.toInt (((1800 * x) + (6 * k)) + 3) = z0 at *; try generalize Int32.toInt ((1800 * x) + (6 * k)) = z1 at *; try generalize Int32.toInt (ct x.toNatClampNeg) = z2 at *; try generalize Int32.toInt (1800 * x) = z3 at *; try generalize Int32.toInt (6 * k) = z4 at *; try generalize Int32.toInt (1800 : Int32) = z5 at *; try generalize Int32.toInt y3 = z6 at *; try generalize Int32.toInt (0 : Int32) = z7 at *; try generalize Int32.toInt (3 : Int32) = z8 at *; try generalize Int32.toInt (6 : Int32) = z9 at *; try generalize Int32.toInt k = z10 at *; try generalize Int32.toInt x = z11 at *; omega)
              refine va_iast hx hb hG.1 hP hD hS 1 2 rfl rfl b_39 dX9_put_257 (fun H locs hP hD hS => ?_)
              have hP : va_P (dC, dI) vwCl [(h0, .inr (9, [.int 0, .ref a0, .ref a1, .ref a2, .int dc, .ref a3, .int tl, .ref a4, .int xl, .int fo, .int fa, .ref a5, .int mn, .ref a6, .int ft, .ref a7, .int wl])), (a0, .inl (cI, 3600, .inl (upd (upd (upd (upd rz ((1800 * x) + (6 * k)).toNatClampNeg y1) (((1800 * x) + (6 * k)) + 1).toNatClampNeg y2) (((1800 * x) + (6 * k)) + 2).toNatClampNeg y3) (((1800 * x) + (6 * k)) + 3).toNatClampNeg y4))), (a1, .inl (cI, 2, .inl ct))] H := hP
              have hD : va_D A [(h0, .inr (9, [.int 0, .ref a0, .ref a1, .ref a2, .int dc, .ref a3, .int tl, .ref a4, .int xl, .int fo, .int fa, .ref a5, .int mn, .ref a6, .int ft, .ref a7, .int wl])), (a0, .inl (cI, 3600, .inl (upd (upd (upd (upd rz ((1800 * x) + (6 * k)).toNatClampNeg y1) (((1800 * x) + (6 * k)) + 1).toNatClampNeg y2) (((1800 * x) + (6 * k)) + 2).toNatClampNeg y3) (((1800 * x) + (6 * k)) + 3).toNatClampNeg y4))), (a1, .inl (cI, 2, .inl ct))] := hD
              refine lv_aload_n hx hb dX9_put_258 rfl (lv_at hl 1 rfl) ?_
              refine va_get (D := (dC, dI)) (ci := 9) (v := .ref a0) (C := RX9) (T := TX9) (N := 17) hx hb hts inc_X9_put_9 hown hG.1 hP 0 rfl rfl 1 (by decide) (hts (.fieldLink RX9 13 "MappingDeskModel" "rows" "[I") (by decide +kernel)) (fun _ h9 => h9) rfl dX9_put_259 ?_
              refine lv_iload hx hb dX9_put_262 (lv_at hl 0 rfl) ?_
              refine lv_iconst (v := 4) hx hb dX9_put_264 (by decide) ?_
              refine lv_iadd hx hb dX9_put_265 ?_
              refine lv_iload hx hb dX9_put_266 (lv_at hl 5 rfl) ?_
              refine lv_if_ge (tgt := 275) hx hb dX9_put_268 (by decide) (fun c_53 => ?_) (fun c_53 => ?_)
              · refine lv_iload hx hb dX9_put_275 (lv_at hl 7 rfl) ?_
                have b_54 : vp_in (((1800 * x) + (6 * k)) + 4) 3600 := by
                  have k_55 : (0 : Int32).toInt = 0 := by decide
                  have q_56 := i_le c_1
                  have q_57 := i_le c_24
                  have q_58 := i_le c_38
                  have q_59 := i_le c_53
                  try have hq7 := hct x.toNatClampNeg (cl_lt (by omega) (by omega))
                  have k_60 : (1800 : Int32).toInt = 1800 := by decide
                  have t_61 : ((1800 * x)).toInt = 1800 * (x).toInt := by
                    have z := ti_mul (a := 1800) (b := x) (by rw [show (1800 : Int32).toInt = 1800 from by decide]; omega) (by rw [show (1800 : Int32).toInt = 1800 from by decide]; omega)
                    rw [z, show (1800 : Int32).toInt = 1800 from by decide]
                  have k_62 : (6 : Int32).toInt = 6 := by decide
                  have t_63 : ((6 * k)).toInt = 6 * (k).toInt := by
                    have z := ti_mul (a := 6) (b := k) (by rw [show (6 : Int32).toInt = 6 from by decide]; omega) (by rw [show (6 : Int32).toInt = 6 from by decide]; omega)
                    rw [z, show (6 : Int32).toInt = 6 from by decide]
                  have t_64 := ti_add (a := (1800 * x)) (b := (6 * k)) (by omega) (by omega)
                  have k_65 : (4 : Int32).toInt = 4 := by decide
                  have t_66 := ti_add (a := ((1800 * x) + (6 * k))) (b := 4) (by omega) (by omega)
                  refine vin ?_ ?_
                  all_goals (try generalize Int32.toInt (((1800 * x) + (6 * k)) + 4) = z0 at *; try generalize Int32.toInt ((1800 * x) + (6 * k)) = z1 at *; try generalize Int32.toInt (ct x.toNatClampNeg) = z2 at *; try generalize Int32.toInt (1800 * x) = z3 at *; try generalize Int32.toInt (6 * k) = z4 at *; try generalize Int32.toInt (1800 : Int32) = z5 at *; try generalize Int32.toInt y3 = z6 at *; try generalize Int32.toInt (0 : Int32) = z7 at *; try generalize Int32.toInt (4 : Int32) = z8 at *; try generalize Int32.toInt (6 : Int32) = z9 at *; try generalize Int32.toInt k = z10 at *; try generalize Int32.toInt x = z11 at *; omega)
                refine va_iast hx hb hG.1 hP hD hS 1 2 rfl rfl b_54 dX9_put_277 (fun H locs hP hD hS => ?_)
                have hP : va_P (dC, dI) vwCl [(h0, .inr (9, [.int 0, .ref a0, .ref a1, .ref a2, .int dc, .ref a3, .int tl, .ref a4, .int xl, .int fo, .int fa, .ref a5, .int mn, .ref a6, .int ft, .ref a7, .int wl])), (a0, .inl (cI, 3600, .inl (upd (upd (upd (upd (upd rz ((1800 * x) + (6 * k)).toNatClampNeg y1) (((1800 * x) + (6 * k)) + 1).toNatClampNeg y2) (((1800 * x) + (6 * k)) + 2).toNatClampNeg y3) (((1800 * x) + (6 * k)) + 3).toNatClampNeg y4) (((1800 * x) + (6 * k)) + 4).toNatClampNeg y5))), (a1, .inl (cI, 2, .inl ct))] H := hP
                have hD : va_D A [(h0, .inr (9, [.int 0, .ref a0, .ref a1, .ref a2, .int dc, .ref a3, .int tl, .ref a4, .int xl, .int fo, .int fa, .ref a5, .int mn, .ref a6, .int ft, .ref a7, .int wl])), (a0, .inl (cI, 3600, .inl (upd (upd (upd (upd (upd rz ((1800 * x) + (6 * k)).toNatClampNeg y1) (((1800 * x) + (6 * k)) + 1).toNatClampNeg y2) (((1800 * x) + (6 * k)) + 2).toNatClampNeg y3) (((1800 * x) + (6 * k)) + 3).toNatClampNeg y4) (((1800 * x) + (6 * k)) + 4).toNatClampNeg y5))), (a1, .inl (cI, 2, .inl ct))] := hD
                refine lv_aload_n hx hb dX9_put_278 rfl (lv_at hl 1 rfl) ?_
                refine va_get (D := (dC, dI)) (ci := 9) (v := .ref a0) (C := RX9) (T := TX9) (N := 17) hx hb hts inc_X9_put_9 hown hG.1 hP 0 rfl rfl 1 (by decide) (hts (.fieldLink RX9 13 "MappingDeskModel" "rows" "[I") (by decide +kernel)) (fun _ h9 => h9) rfl dX9_put_279 ?_
                refine lv_iload hx hb dX9_put_282 (lv_at hl 0 rfl) ?_
                refine lv_iconst (v := 5) hx hb dX9_put_284 (by decide) ?_
                refine lv_iadd hx hb dX9_put_285 ?_
                refine lv_iload hx hb dX9_put_286 (lv_at hl 5 rfl) ?_
                refine lv_if_lt (tgt := 296) hx hb dX9_put_288 (by decide) (fun c_69 => ?_) (fun c_69 => ?_)
                · rw [if_pos c_69] at hR
                  refine lv_iconst (v := (-1)) hx hb dX9_put_296 (by decide) ?_
                  refine lv_goto (tgt := 302) hx hb dX9_put_297 (by decide) ?_
                  have b_70 : vp_in (((1800 * x) + (6 * k)) + 5) 3600 := by
                    have k_71 : (0 : Int32).toInt = 0 := by decide
                    have q_72 := i_le c_1
                    have q_73 := i_le c_24
                    have q_74 := i_le c_38
                    have q_75 := i_le c_53
                    have q_76 := i_lt c_69
                    try have hq7 := hct x.toNatClampNeg (cl_lt (by omega) (by omega))
                    have k_77 : (1800 : Int32).toInt = 1800 := by decide
                    have t_78 : ((1800 * x)).toInt = 1800 * (x).toInt := by
                      have z := ti_mul (a := 1800) (b := x) (by rw [show (1800 : Int32).toInt = 1800 from by decide]; omega) (by rw [show (1800 : Int32).toInt = 1800 from by decide]; omega)
                      rw [z, show (1800 : Int32).toInt = 1800 from by decide]
                    have k_79 : (6 : Int32).toInt = 6 := by decide
                    have t_80 : ((6 * k)).toInt = 6 * (k).toInt := by
                      have z := ti_mul (a := 6) (b := k) (by rw [show (6 : Int32).toInt = 6 from by decide]; omega) (by rw [show (6 : Int32).toInt = 6 from by decide]; omega)
                      rw [z, show (6 : Int32).toInt = 6 from by decide]
                    have t_81 := ti_add (a := (1800 * x)) (b := (6 * k)) (by omega) (by omega)
                    have k_82 : (5 : Int32).toInt = 5 := by decide
                    have t_83 := ti_add (a := ((1800 * x) + (6 * k))) (b := 5) (by omega) (by omega)
                    refine vin ?_ ?_
                    all_goals (try generalize Int32.toInt (((1800 * x) + (6 * k)) + 5) = z0 at *; try generalize Int32.toInt ((1800 * x) + (6 * k)) = z1 at *; try generalize Int32.toInt (ct x.toNatClampNeg) = z2 at *; try generalize Int32.toInt (1800 * x) = z3 at *; try generalize Int32.toInt (6 * k) = z4 at *; try generalize Int32.toInt (1800 : Int32) = z5 at *; try generalize Int32.toInt y3 = z6 at *; try generalize Int32.toInt (0 : Int32) = z7 at *; try generalize Int32.toInt (5 : Int32) = z8 at *; try generalize Int32.toInt (6 : Int32) = z9 at *; try generalize Int32.toInt k = z10 at *; try generalize Int32.toInt x = z11 at *; omega)
                  refine va_iast hx hb hG.1 hP hD hS 1 2 rfl rfl b_70 dX9_put_302 (fun H locs hP hD hS => ?_)
                  have hP : va_P (dC, dI) vwCl [(h0, .inr (9, [.int 0, .ref a0, .ref a1, .ref a2, .int dc, .ref a3, .int tl, .ref a4, .int xl, .int fo, .int fa, .ref a5, .int mn, .ref a6, .int ft, .ref a7, .int wl])), (a0, .inl (cI, 3600, .inl (upd (upd (upd (upd (upd (upd rz ((1800 * x) + (6 * k)).toNatClampNeg y1) (((1800 * x) + (6 * k)) + 1).toNatClampNeg y2) (((1800 * x) + (6 * k)) + 2).toNatClampNeg y3) (((1800 * x) + (6 * k)) + 3).toNatClampNeg y4) (((1800 * x) + (6 * k)) + 4).toNatClampNeg y5) (((1800 * x) + (6 * k)) + 5).toNatClampNeg (-1)))), (a1, .inl (cI, 2, .inl ct))] H := hP
                  have hD : va_D A [(h0, .inr (9, [.int 0, .ref a0, .ref a1, .ref a2, .int dc, .ref a3, .int tl, .ref a4, .int xl, .int fo, .int fa, .ref a5, .int mn, .ref a6, .int ft, .ref a7, .int wl])), (a0, .inl (cI, 3600, .inl (upd (upd (upd (upd (upd (upd rz ((1800 * x) + (6 * k)).toNatClampNeg y1) (((1800 * x) + (6 * k)) + 1).toNatClampNeg y2) (((1800 * x) + (6 * k)) + 2).toNatClampNeg y3) (((1800 * x) + (6 * k)) + 3).toNatClampNeg y4) (((1800 * x) + (6 * k)) + 4).toNatClampNeg y5) (((1800 * x) + (6 * k)) + 5).toNatClampNeg (-1)))), (a1, .inl (cI, 2, .inl ct))] := hD
                  refine lv_aload_n hx hb dX9_put_303 rfl (lv_at hl 1 rfl) ?_
                  refine va_get (D := (dC, dI)) (ci := 9) (v := .ref a1) (C := RX9) (T := TX9) (N := 17) hx hb hts inc_X9_put_9 hown hG.1 hP 0 rfl rfl 2 (by decide) (hts (.fieldLink RX9 17 "MappingDeskModel" "count" "[I") (by decide +kernel)) (fun _ h9 => h9) rfl dX9_put_304 ?_
                  refine lv_iload_n hx hb dX9_put_307 rfl (lv_at hl 2 rfl) ?_
                  refine lv_dup2_11 hx hb dX9_put_308 rfl rfl ?_
                  have b_86 : vp_in x 2 := by
                    have k_87 : (0 : Int32).toInt = 0 := by decide
                    have q_88 := i_le c_1
                    have q_89 := i_le c_24
                    have q_90 := i_le c_38
                    have q_91 := i_le c_53
                    have q_92 := i_lt c_69
                    try have hq7 := hct x.toNatClampNeg (cl_lt (by omega) (by omega))
                    refine vin ?_ ?_
                    all_goals (try generalize Int32.toInt (ct x.toNatClampNeg) = z0 at *; try generalize Int32.toInt y3 = z1 at *; try generalize Int32.toInt (0 : Int32) = z2 at *; try generalize Int32.toInt k = z3 at *; try generalize Int32.toInt x = z4 at *; omega)
                  refine va_iald hx hb hG.1 hP 2 2 rfl rfl b_86 dX9_put_309 ?_
                  refine lv_iconst (v := 1) hx hb dX9_put_310 (by decide) ?_
                  refine lv_iadd hx hb dX9_put_311 ?_
                  have b_95 : vp_in x 2 := by
                    have k_96 : (0 : Int32).toInt = 0 := by decide
                    have q_97 := i_le c_1
                    have q_98 := i_le c_24
                    have q_99 := i_le c_38
                    have q_100 := i_le c_53
                    have q_101 := i_lt c_69
                    try have hq7 := hct x.toNatClampNeg (cl_lt (by omega) (by omega))
                    refine vin ?_ ?_
                    all_goals (try generalize Int32.toInt (ct x.toNatClampNeg) = z0 at *; try generalize Int32.toInt y3 = z1 at *; try generalize Int32.toInt (0 : Int32) = z2 at *; try generalize Int32.toInt k = z3 at *; try generalize Int32.toInt x = z4 at *; omega)
                  refine va_iast hx hb hG.1 hP hD hS 2 2 rfl rfl b_95 dX9_put_312 (fun H locs hP hD hS => ?_)
                  have hP : va_P (dC, dI) vwCl [(h0, .inr (9, [.int 0, .ref a0, .ref a1, .ref a2, .int dc, .ref a3, .int tl, .ref a4, .int xl, .int fo, .int fa, .ref a5, .int mn, .ref a6, .int ft, .ref a7, .int wl])), (a0, .inl (cI, 3600, .inl (upd (upd (upd (upd (upd (upd rz ((1800 * x) + (6 * k)).toNatClampNeg y1) (((1800 * x) + (6 * k)) + 1).toNatClampNeg y2) (((1800 * x) + (6 * k)) + 2).toNatClampNeg y3) (((1800 * x) + (6 * k)) + 3).toNatClampNeg y4) (((1800 * x) + (6 * k)) + 4).toNatClampNeg y5) (((1800 * x) + (6 * k)) + 5).toNatClampNeg (-1)))), (a1, .inl (cI, 2, .inl (upd ct x.toNatClampNeg ((ct x.toNatClampNeg) + 1))))] H := hP
                  have hD : va_D A [(h0, .inr (9, [.int 0, .ref a0, .ref a1, .ref a2, .int dc, .ref a3, .int tl, .ref a4, .int xl, .int fo, .int fa, .ref a5, .int mn, .ref a6, .int ft, .ref a7, .int wl])), (a0, .inl (cI, 3600, .inl (upd (upd (upd (upd (upd (upd rz ((1800 * x) + (6 * k)).toNatClampNeg y1) (((1800 * x) + (6 * k)) + 1).toNatClampNeg y2) (((1800 * x) + (6 * k)) + 2).toNatClampNeg y3) (((1800 * x) + (6 * k)) + 3).toNatClampNeg y4) (((1800 * x) + (6 * k)) + 4).toNatClampNeg y5) (((1800 * x) + (6 * k)) + 5).toNatClampNeg (-1)))), (a1, .inl (cI, 2, .inl (upd ct x.toNatClampNeg ((ct x.toNatClampNeg) + 1))))] := hD
                  refine lv_aload_n hx hb dX9_put_313 rfl (lv_at hl 1 rfl) ?_
                  refine va_get (D := (dC, dI)) (ci := 9) (v := .ref a1) (C := RX9) (T := TX9) (N := 17) hx hb hts inc_X9_put_9 hown hG.1 hP 0 rfl rfl 2 (by decide) (hts (.fieldLink RX9 17 "MappingDeskModel" "count" "[I") (by decide +kernel)) (fun _ h9 => h9) rfl dX9_put_314 ?_
                  refine lv_iload_n hx hb dX9_put_317 rfl (lv_at hl 2 rfl) ?_
                  have b_104 : vp_in x 2 := by
                    have k_105 : (0 : Int32).toInt = 0 := by decide
                    have q_106 := i_le c_1
                    have q_107 := i_le c_24
                    have q_108 := i_le c_38
                    have q_109 := i_le c_53
                    have q_110 := i_lt c_69
                    try have hq7 := hct x.toNatClampNeg (cl_lt (by omega) (by omega))
                    refine vin ?_ ?_
                    all_goals (try generalize Int32.toInt (ct x.toNatClampNeg) = z0 at *; try generalize Int32.toInt y3 = z1 at *; try generalize Int32.toInt (0 : Int32) = z2 at *; try generalize Int32.toInt k = z3 at *; try generalize Int32.toInt x = z4 at *; omega)
                  refine va_iald hx hb hG.1 hP 2 2 rfl rfl b_104 dX9_put_318 ?_
                  subst hR
                  exact W.iret (v := ((upd ct x.toNatClampNeg ((ct x.toNatClampNeg) + 1)) x.toNatClampNeg)) hx hb hr (fun t ht hW => ⟨⟨((upd ct x.toNatClampNeg ((ct x.toNatClampNeg) + 1)) x.toNatClampNeg), (), rfl, rfl, by rw [ht]; exact hP, hD⟩, hS.F ht⟩) hS.2.2 dX9_put_319
                · rw [if_neg c_69] at hR
                  refine lv_iload hx hb dX9_put_291 (lv_at hl 8 rfl) ?_
                  refine lv_if_ge (tgt := 300) hx hb dX9_put_293 (by decide) (fun c_113 => ?_) (fun c_113 => ?_)
                  · rw [if_pos c_113] at hR
                    refine lv_iload hx hb dX9_put_300 (lv_at hl 8 rfl) ?_
                    have b_114 : vp_in (((1800 * x) + (6 * k)) + 5) 3600 := by
                      have k_115 : (0 : Int32).toInt = 0 := by decide
                      have q_116 := i_le c_1
                      have q_117 := i_le c_24
                      have q_118 := i_le c_38
                      have q_119 := i_le c_53
                      have q_120 := i_nlt c_69
                      have q_121 := i_le c_113
                      try have hq7 := hct x.toNatClampNeg (cl_lt (by omega) (by omega))
                      have k_122 : (1800 : Int32).toInt = 1800 := by decide
                      have t_123 : ((1800 * x)).toInt = 1800 * (x).toInt := by
                        have z := ti_mul (a := 1800) (b := x) (by rw [show (1800 : Int32).toInt = 1800 from by decide]; omega) (by rw [show (1800 : Int32).toInt = 1800 from by decide]; omega)
                        rw [z, show (1800 : Int32).toInt = 1800 from by decide]
                      have k_124 : (6 : Int32).toInt = 6 := by decide
                      have t_125 : ((6 * k)).toInt = 6 * (k).toInt := by
                        have z := ti_mul (a := 6) (b := k) (by rw [show (6 : Int32).toInt = 6 from by decide]; omega) (by rw [show (6 : Int32).toInt = 6 from by decide]; omega)
                        rw [z, show (6 : Int32).toInt = 6 from by decide]
                      have t_126 := ti_add (a := (1800 * x)) (b := (6 * k)) (by omega) (by omega)
                      have k_127 : (5 : Int32).toInt = 5 := by decide
                      have t_128 := ti_add (a := ((1800 * x) + (6 * k))) (b := 5) (by omega) (by omega)
                      refine vin ?_ ?_
                      all_goals (try generalize Int32.toInt (((1800 * x) + (6 * k)) + 5) = z0 at *; try generalize Int32.toInt ((1800 * x) + (6 * k)) = z1 at *; try generalize Int32.toInt (ct x.toNatClampNeg) = z2 at *; try generalize Int32.toInt (1800 * x) = z3 at *; try generalize Int32.toInt (6 * k) = z4 at *; try generalize Int32.toInt (1800 : Int32) = z5 at *; try generalize Int32.toInt y3 = z6 at *; try generalize Int32.toInt y6 = z7 at *; try generalize Int32.toInt (0 : Int32) = z8 at *; try generalize Int32.toInt (5 : Int32) = z9 at *; try generalize Int32.toInt (6 : Int32) = z10 at *; try generalize Int32.toInt k = z11 at *; try generalize Int32.toInt x = z12 at *; omega)
                    refine va_iast hx hb hG.1 hP hD hS 1 2 rfl rfl b_114 dX9_put_302 (fun H locs hP hD hS => ?_)
                    have hP : va_P (dC, dI) vwCl [(h0, .inr (9, [.int 0, .ref a0, .ref a1, .ref a2, .int dc, .ref a3, .int tl, .ref a4, .int xl, .int fo, .int fa, .ref a5, .int mn, .ref a6, .int ft, .ref a7, .int wl])), (a0, .inl (cI, 3600, .inl (upd (upd (upd (upd (upd (upd rz ((1800 * x) + (6 * k)).toNatClampNeg y1) (((1800 * x) + (6 * k)) + 1).toNatClampNeg y2) (((1800 * x) + (6 * k)) + 2).toNatClampNeg y3) (((1800 * x) + (6 * k)) + 3).toNatClampNeg y4) (((1800 * x) + (6 * k)) + 4).toNatClampNeg y5) (((1800 * x) + (6 * k)) + 5).toNatClampNeg y6))), (a1, .inl (cI, 2, .inl ct))] H := hP
                    have hD : va_D A [(h0, .inr (9, [.int 0, .ref a0, .ref a1, .ref a2, .int dc, .ref a3, .int tl, .ref a4, .int xl, .int fo, .int fa, .ref a5, .int mn, .ref a6, .int ft, .ref a7, .int wl])), (a0, .inl (cI, 3600, .inl (upd (upd (upd (upd (upd (upd rz ((1800 * x) + (6 * k)).toNatClampNeg y1) (((1800 * x) + (6 * k)) + 1).toNatClampNeg y2) (((1800 * x) + (6 * k)) + 2).toNatClampNeg y3) (((1800 * x) + (6 * k)) + 3).toNatClampNeg y4) (((1800 * x) + (6 * k)) + 4).toNatClampNeg y5) (((1800 * x) + (6 * k)) + 5).toNatClampNeg y6))), (a1, .inl (cI, 2, .inl ct))] := hD
                    refine lv_aload_n hx hb dX9_put_303 rfl (lv_at hl 1 rfl) ?_
                    refine va_get (D := (dC, dI)) (ci := 9) (v := .ref a1) (C := RX9) (T := TX9) (N := 17) hx hb hts inc_X9_put_9 hown hG.1 hP 0 rfl rfl 2 (by decide) (hts (.fieldLink RX9 17 "MappingDeskModel" "count" "[I") (by decide +kernel)) (fun _ h9 => h9) rfl dX9_put_304 ?_
                    refine lv_iload_n hx hb dX9_put_307 rfl (lv_at hl 2 rfl) ?_
                    refine lv_dup2_11 hx hb dX9_put_308 rfl rfl ?_
                    have b_131 : vp_in x 2 := by
                      have k_132 : (0 : Int32).toInt = 0 := by decide
                      have q_133 := i_le c_1
                      have q_134 := i_le c_24
                      have q_135 := i_le c_38
                      have q_136 := i_le c_53
                      have q_137 := i_nlt c_69
                      have q_138 := i_le c_113
                      try have hq7 := hct x.toNatClampNeg (cl_lt (by omega) (by omega))
                      refine vin ?_ ?_
                      all_goals (try generalize Int32.toInt (ct x.toNatClampNeg) = z0 at *; try generalize Int32.toInt y3 = z1 at *; try generalize Int32.toInt y6 = z2 at *; try generalize Int32.toInt (0 : Int32) = z3 at *; try generalize Int32.toInt k = z4 at *; try generalize Int32.toInt x = z5 at *; omega)
                    refine va_iald hx hb hG.1 hP 2 2 rfl rfl b_131 dX9_put_309 ?_
                    refine lv_iconst (v := 1) hx hb dX9_put_310 (by decide) ?_
                    refine lv_iadd hx hb dX9_put_311 ?_
                    have b_141 : vp_in x 2 := by
                      have k_142 : (0 : Int32).toInt = 0 := by decide
                      have q_143 := i_le c_1
                      have q_144 := i_le c_24
                      have q_145 := i_le c_38
                      have q_146 := i_le c_53
                      have q_147 := i_nlt c_69
                      have q_148 := i_le c_113
                      try have hq7 := hct x.toNatClampNeg (cl_lt (by omega) (by omega))
                      refine vin ?_ ?_
                      all_goals (try generalize Int32.toInt (ct x.toNatClampNeg) = z0 at *; try generalize Int32.toInt y3 = z1 at *; try generalize Int32.toInt y6 = z2 at *; try generalize Int32.toInt (0 : Int32) = z3 at *; try generalize Int32.toInt k = z4 at *; try generalize Int32.toInt x = z5 at *; omega)
                    refine va_iast hx hb hG.1 hP hD hS 2 2 rfl rfl b_141 dX9_put_312 (fun H locs hP hD hS => ?_)
                    have hP : va_P (dC, dI) vwCl [(h0, .inr (9, [.int 0, .ref a0, .ref a1, .ref a2, .int dc, .ref a3, .int tl, .ref a4, .int xl, .int fo, .int fa, .ref a5, .int mn, .ref a6, .int ft, .ref a7, .int wl])), (a0, .inl (cI, 3600, .inl (upd (upd (upd (upd (upd (upd rz ((1800 * x) + (6 * k)).toNatClampNeg y1) (((1800 * x) + (6 * k)) + 1).toNatClampNeg y2) (((1800 * x) + (6 * k)) + 2).toNatClampNeg y3) (((1800 * x) + (6 * k)) + 3).toNatClampNeg y4) (((1800 * x) + (6 * k)) + 4).toNatClampNeg y5) (((1800 * x) + (6 * k)) + 5).toNatClampNeg y6))), (a1, .inl (cI, 2, .inl (upd ct x.toNatClampNeg ((ct x.toNatClampNeg) + 1))))] H := hP
                    have hD : va_D A [(h0, .inr (9, [.int 0, .ref a0, .ref a1, .ref a2, .int dc, .ref a3, .int tl, .ref a4, .int xl, .int fo, .int fa, .ref a5, .int mn, .ref a6, .int ft, .ref a7, .int wl])), (a0, .inl (cI, 3600, .inl (upd (upd (upd (upd (upd (upd rz ((1800 * x) + (6 * k)).toNatClampNeg y1) (((1800 * x) + (6 * k)) + 1).toNatClampNeg y2) (((1800 * x) + (6 * k)) + 2).toNatClampNeg y3) (((1800 * x) + (6 * k)) + 3).toNatClampNeg y4) (((1800 * x) + (6 * k)) + 4).toNatClampNeg y5) (((1800 * x) + (6 * k)) + 5).toNatClampNeg y6))), (a1, .inl (cI, 2, .inl (upd ct x.toNatClampNeg ((ct x.toNatClampNeg) + 1))))] := hD
                    refine lv_aload_n hx hb dX9_put_313 rfl (lv_at hl 1 rfl) ?_
                    refine va_get (D := (dC, dI)) (ci := 9) (v := .ref a1) (C := RX9) (T := TX9) (N := 17) hx hb hts inc_X9_put_9 hown hG.1 hP 0 rfl rfl 2 (by decide) (hts (.fieldLink RX9 17 "MappingDeskModel" "count" "[I") (by decide +kernel)) (fun _ h9 => h9) rfl dX9_put_314 ?_
                    refine lv_iload_n hx hb dX9_put_317 rfl (lv_at hl 2 rfl) ?_
                    have b_151 : vp_in x 2 := by
                      have k_152 : (0 : Int32).toInt = 0 := by decide
                      have q_153 := i_le c_1
                      have q_154 := i_le c_24
                      have q_155 := i_le c_38
                      have q_156 := i_le c_53
                      have q_157 := i_nlt c_69
                      have q_158 := i_le c_113
                      try have hq7 := hct x.toNatClampNeg (cl_lt (by omega) (by omega))
                      refine vin ?_ ?_
                      all_goals (try generalize Int32.toInt (ct x.toNatClampNeg) = z0 at *; try generalize Int32.toInt y3 = z1 at *; try generalize Int32.toInt y6 = z2 at *; try generalize Int32.toInt (0 : Int32) = z3 at *; try generalize Int32.toInt k = z4 at *; try generalize Int32.toInt x = z5 at *; omega)
                    refine va_iald hx hb hG.1 hP 2 2 rfl rfl b_151 dX9_put_318 ?_
                    subst hR
                    exact W.iret (v := ((upd ct x.toNatClampNeg ((ct x.toNatClampNeg) + 1)) x.toNatClampNeg)) hx hb hr (fun t ht hW => ⟨⟨((upd ct x.toNatClampNeg ((ct x.toNatClampNeg) + 1)) x.toNatClampNeg), (), rfl, rfl, by rw [ht]; exact hP, hD⟩, hS.F ht⟩) hS.2.2 dX9_put_319
                  · rw [if_neg c_113] at hR
                    refine lv_iconst (v := (-1)) hx hb dX9_put_296 (by decide) ?_
                    refine lv_goto (tgt := 302) hx hb dX9_put_297 (by decide) ?_
                    have b_161 : vp_in (((1800 * x) + (6 * k)) + 5) 3600 := by
                      have k_162 : (0 : Int32).toInt = 0 := by decide
                      have q_163 := i_le c_1
                      have q_164 := i_le c_24
                      have q_165 := i_le c_38
                      have q_166 := i_le c_53
                      have q_167 := i_nlt c_69
                      have q_168 := i_nle c_113
                      try have hq7 := hct x.toNatClampNeg (cl_lt (by omega) (by omega))
                      have k_169 : (1800 : Int32).toInt = 1800 := by decide
                      have t_170 : ((1800 * x)).toInt = 1800 * (x).toInt := by
                        have z := ti_mul (a := 1800) (b := x) (by rw [show (1800 : Int32).toInt = 1800 from by decide]; omega) (by rw [show (1800 : Int32).toInt = 1800 from by decide]; omega)
                        rw [z, show (1800 : Int32).toInt = 1800 from by decide]
                      have k_171 : (6 : Int32).toInt = 6 := by decide
                      have t_172 : ((6 * k)).toInt = 6 * (k).toInt := by
                        have z := ti_mul (a := 6) (b := k) (by rw [show (6 : Int32).toInt = 6 from by decide]; omega) (by rw [show (6 : Int32).toInt = 6 from by decide]; omega)
                        rw [z, show (6 : Int32).toInt = 6 from by decide]
                      have t_173 := ti_add (a := (1800 * x)) (b := (6 * k)) (by omega) (by omega)
                      have k_174 : (5 : Int32).toInt = 5 := by decide
                      have t_175 := ti_add (a := ((1800 * x) + (6 * k))) (b := 5) (by omega) (by omega)
                      refine vin ?_ ?_
                      all_goals (try generalize Int32.toInt (((1800 * x) + (6 * k)) + 5) = z0 at *; try generalize Int32.toInt ((1800 * x) + (6 * k)) = z1 at *; try generalize Int32.toInt (ct x.toNatClampNeg) = z2 at *; try generalize Int32.toInt (1800 * x) = z3 at *; try generalize Int32.toInt (6 * k) = z4 at *; try generalize Int32.toInt (1800 : Int32) = z5 at *; try generalize Int32.toInt y3 = z6 at *; try generalize Int32.toInt y6 = z7 at *; try generalize Int32.toInt (0 : Int32) = z8 at *; try generalize Int32.toInt (5 : Int32) = z9 at *; try generalize Int32.toInt (6 : Int32) = z10 at *; try generalize Int32.toInt k = z11 at *; try generalize Int32.toInt x = z12 at *; omega)
                    refine va_iast hx hb hG.1 hP hD hS 1 2 rfl rfl b_161 dX9_put_302 (fun H locs hP hD hS => ?_)
                    have hP : va_P (dC, dI) vwCl [(h0, .inr (9, [.int 0, .ref a0, .ref a1, .ref a2, .int dc, .ref a3, .int tl, .ref a4, .int xl, .int fo, .int fa, .ref a5, .int mn, .ref a6, .int ft, .ref a7, .int wl])), (a0, .inl (cI, 3600, .inl (upd (upd (upd (upd (upd (upd rz ((1800 * x) + (6 * k)).toNatClampNeg y1) (((1800 * x) + (6 * k)) + 1).toNatClampNeg y2) (((1800 * x) + (6 * k)) + 2).toNatClampNeg y3) (((1800 * x) + (6 * k)) + 3).toNatClampNeg y4) (((1800 * x) + (6 * k)) + 4).toNatClampNeg y5) (((1800 * x) + (6 * k)) + 5).toNatClampNeg (-1)))), (a1, .inl (cI, 2, .inl ct))] H := hP
                    have hD : va_D A [(h0, .inr (9, [.int 0, .ref a0, .ref a1, .ref a2, .int dc, .ref a3, .int tl, .ref a4, .int xl, .int fo, .int fa, .ref a5, .int mn, .ref a6, .int ft, .ref a7, .int wl])), (a0, .inl (cI, 3600, .inl (upd (upd (upd (upd (upd (upd rz ((1800 * x) + (6 * k)).toNatClampNeg y1) (((1800 * x) + (6 * k)) + 1).toNatClampNeg y2) (((1800 * x) + (6 * k)) + 2).toNatClampNeg y3) (((1800 * x) + (6 * k)) + 3).toNatClampNeg y4) (((1800 * x) + (6 * k)) + 4).toNatClampNeg y5) (((1800 * x) + (6 * k)) + 5).toNatClampNeg (-1)))), (a1, .inl (cI, 2, .inl ct))] := hD
                    refine lv_aload_n hx hb dX9_put_303 rfl (lv_at hl 1 rfl) ?_
                    refine va_get (D := (dC, dI)) (ci := 9) (v := .ref a1) (C := RX9) (T := TX9) (N := 17) hx hb hts inc_X9_put_9 hown hG.1 hP 0 rfl rfl 2 (by decide) (hts (.fieldLink RX9 17 "MappingDeskModel" "count" "[I") (by decide +kernel)) (fun _ h9 => h9) rfl dX9_put_304 ?_
                    refine lv_iload_n hx hb dX9_put_307 rfl (lv_at hl 2 rfl) ?_
                    refine lv_dup2_11 hx hb dX9_put_308 rfl rfl ?_
                    have b_178 : vp_in x 2 := by
                      have k_179 : (0 : Int32).toInt = 0 := by decide
                      have q_180 := i_le c_1
                      have q_181 := i_le c_24
                      have q_182 := i_le c_38
                      have q_183 := i_le c_53
                      have q_184 := i_nlt c_69
                      have q_185 := i_nle c_113
                      try have hq7 := hct x.toNatClampNeg (cl_lt (by omega) (by omega))
                      refine vin ?_ ?_
                      all_goals (try generalize Int32.toInt (ct x.toNatClampNeg) = z0 at *; try generalize Int32.toInt y3 = z1 at *; try generalize Int32.toInt y6 = z2 at *; try generalize Int32.toInt (0 : Int32) = z3 at *; try generalize Int32.toInt k = z4 at *; try generalize Int32.toInt x = z5 at *; omega)
                    refine va_iald hx hb hG.1 hP 2 2 rfl rfl b_178 dX9_put_309 ?_
                    refine lv_iconst (v := 1) hx hb dX9_put_310 (by decide) ?_
                    refine lv_iadd hx hb dX9_put_311 ?_
                    have b_188 : vp_in x 2 := by
                      have k_189 : (0 : Int32).toInt = 0 := by decide
                      have q_190 := i_le c_1
                      have q_191 := i_le c_24
                      have q_192 := i_le c_38
                      have q_193 := i_le c_53
                      have q_194 := i_nlt c_69
                      have q_195 := i_nle c_113
                      try have hq7 := hct x.toNatClampNeg (cl_lt (by omega) (by omega))
                      refine vin ?_ ?_
                      all_goals (try generalize Int32.toInt (ct x.toNatClampNeg) = z0 at *; try generalize Int32.toInt y3 = z1 at *; try generalize Int32.toInt y6 = z2 at *; try generalize Int32.toInt (0 : Int32) = z3 at *; try generalize Int32.toInt k = z4 at *; try generalize Int32.toInt x = z5 at *; omega)
                    refine va_iast hx hb hG.1 hP hD hS 2 2 rfl rfl b_188 dX9_put_312 (fun H locs hP hD hS => ?_)
                    have hP : va_P (dC, dI) vwCl [(h0, .inr (9, [.int 0, .ref a0, .ref a1, .ref a2, .int dc, .ref a3, .int tl, .ref a4, .int xl, .int fo, .int fa, .ref a5, .int mn, .ref a6, .int ft, .ref a7, .int wl])), (a0, .inl (cI, 3600, .inl (upd (upd (upd (upd (upd (upd rz ((1800 * x) + (6 * k)).toNatClampNeg y1) (((1800 * x) + (6 * k)) + 1).toNatClampNeg y2) (((1800 * x) + (6 * k)) + 2).toNatClampNeg y3) (((1800 * x) + (6 * k)) + 3).toNatClampNeg y4) (((1800 * x) + (6 * k)) + 4).toNatClampNeg y5) (((1800 * x) + (6 * k)) + 5).toNatClampNeg (-1)))), (a1, .inl (cI, 2, .inl (upd ct x.toNatClampNeg ((ct x.toNatClampNeg) + 1))))] H := hP
                    have hD : va_D A [(h0, .inr (9, [.int 0, .ref a0, .ref a1, .ref a2, .int dc, .ref a3, .int tl, .ref a4, .int xl, .int fo, .int fa, .ref a5, .int mn, .ref a6, .int ft, .ref a7, .int wl])), (a0, .inl (cI, 3600, .inl (upd (upd (upd (upd (upd (upd rz ((1800 * x) + (6 * k)).toNatClampNeg y1) (((1800 * x) + (6 * k)) + 1).toNatClampNeg y2) (((1800 * x) + (6 * k)) + 2).toNatClampNeg y3) (((1800 * x) + (6 * k)) + 3).toNatClampNeg y4) (((1800 * x) + (6 * k)) + 4).toNatClampNeg y5) (((1800 * x) + (6 * k)) + 5).toNatClampNeg (-1)))), (a1, .inl (cI, 2, .inl (upd ct x.toNatClampNeg ((ct x.toNatClampNeg) + 1))))] := hD
                    refine lv_aload_n hx hb dX9_put_313 rfl (lv_at hl 1 rfl) ?_
                    refine va_get (D := (dC, dI)) (ci := 9) (v := .ref a1) (C := RX9) (T := TX9) (N := 17) hx hb hts inc_X9_put_9 hown hG.1 hP 0 rfl rfl 2 (by decide) (hts (.fieldLink RX9 17 "MappingDeskModel" "count" "[I") (by decide +kernel)) (fun _ h9 => h9) rfl dX9_put_314 ?_
                    refine lv_iload_n hx hb dX9_put_317 rfl (lv_at hl 2 rfl) ?_
                    have b_198 : vp_in x 2 := by
                      have k_199 : (0 : Int32).toInt = 0 := by decide
                      have q_200 := i_le c_1
                      have q_201 := i_le c_24
                      have q_202 := i_le c_38
                      have q_203 := i_le c_53
                      have q_204 := i_nlt c_69
                      have q_205 := i_nle c_113
                      try have hq7 := hct x.toNatClampNeg (cl_lt (by omega) (by omega))
                      refine vin ?_ ?_
                      all_goals (try generalize Int32.toInt (ct x.toNatClampNeg) = z0 at *; try generalize Int32.toInt y3 = z1 at *; try generalize Int32.toInt y6 = z2 at *; try generalize Int32.toInt (0 : Int32) = z3 at *; try generalize Int32.toInt k = z4 at *; try generalize Int32.toInt x = z5 at *; omega)
                    refine va_iald hx hb hG.1 hP 2 2 rfl rfl b_198 dX9_put_318 ?_
                    subst hR
                    exact W.iret (v := ((upd ct x.toNatClampNeg ((ct x.toNatClampNeg) + 1)) x.toNatClampNeg)) hx hb hr (fun t ht hW => ⟨⟨((upd ct x.toNatClampNeg ((ct x.toNatClampNeg) + 1)) x.toNatClampNeg), (), rfl, rfl, by rw [ht]; exact hP, hD⟩, hS.F ht⟩) hS.2.2 dX9_put_319
              · exact absurd c_38 c_53
            · exact absurd c_24 c_38
          · rw [if_neg c_24] at hR
            refine lv_iconst (v := (-1)) hx hb dX9_put_231 (by decide) ?_
            refine lv_goto (tgt := 237) hx hb dX9_put_232 (by decide) ?_
            have b_208 : vp_in (((1800 * x) + (6 * k)) + 2) 3600 := by
              have k_209 : (0 : Int32).toInt = 0 := by decide
              have q_210 := i_le c_1
              have q_211 := i_nle c_24
              try have hq7 := hct x.toNatClampNeg (cl_lt (by omega) (by omega))
              have k_212 : (1800 : Int32).toInt = 1800 := by decide
              have t_213 : ((1800 * x)).toInt = 1800 * (x).toInt := by
                have z := ti_mul (a := 1800) (b := x) (by rw [show (1800 : Int32).toInt = 1800 from by decide]; omega) (by rw [show (1800 : Int32).toInt = 1800 from by decide]; omega)
                rw [z, show (1800 : Int32).toInt = 1800 from by decide]
              have k_214 : (6 : Int32).toInt = 6 := by decide
              have t_215 : ((6 * k)).toInt = 6 * (k).toInt := by
                have z := ti_mul (a := 6) (b := k) (by rw [show (6 : Int32).toInt = 6 from by decide]; omega) (by rw [show (6 : Int32).toInt = 6 from by decide]; omega)
                rw [z, show (6 : Int32).toInt = 6 from by decide]
              have t_216 := ti_add (a := (1800 * x)) (b := (6 * k)) (by omega) (by omega)
              have k_217 : (2 : Int32).toInt = 2 := by decide
              have t_218 := ti_add (a := ((1800 * x) + (6 * k))) (b := 2) (by omega) (by omega)
              refine vin ?_ ?_
              all_goals (try generalize Int32.toInt (((1800 * x) + (6 * k)) + 2) = z0 at *; try generalize Int32.toInt ((1800 * x) + (6 * k)) = z1 at *; try generalize Int32.toInt (ct x.toNatClampNeg) = z2 at *; try generalize Int32.toInt (1800 * x) = z3 at *; try generalize Int32.toInt (6 * k) = z4 at *; try generalize Int32.toInt (1800 : Int32) = z5 at *; try generalize Int32.toInt y3 = z6 at *; try generalize Int32.toInt (0 : Int32) = z7 at *; try generalize Int32.toInt (2 : Int32) = z8 at *; try generalize Int32.toInt (6 : Int32) = z9 at *; try generalize Int32.toInt k = z10 at *; try generalize Int32.toInt x = z11 at *; omega)
            refine va_iast hx hb hG.1 hP hD hS 1 2 rfl rfl b_208 dX9_put_237 (fun H locs hP hD hS => ?_)
            have hP : va_P (dC, dI) vwCl [(h0, .inr (9, [.int 0, .ref a0, .ref a1, .ref a2, .int dc, .ref a3, .int tl, .ref a4, .int xl, .int fo, .int fa, .ref a5, .int mn, .ref a6, .int ft, .ref a7, .int wl])), (a0, .inl (cI, 3600, .inl (upd (upd (upd rz ((1800 * x) + (6 * k)).toNatClampNeg y1) (((1800 * x) + (6 * k)) + 1).toNatClampNeg y2) (((1800 * x) + (6 * k)) + 2).toNatClampNeg (-1)))), (a1, .inl (cI, 2, .inl ct))] H := hP
            have hD : va_D A [(h0, .inr (9, [.int 0, .ref a0, .ref a1, .ref a2, .int dc, .ref a3, .int tl, .ref a4, .int xl, .int fo, .int fa, .ref a5, .int mn, .ref a6, .int ft, .ref a7, .int wl])), (a0, .inl (cI, 3600, .inl (upd (upd (upd rz ((1800 * x) + (6 * k)).toNatClampNeg y1) (((1800 * x) + (6 * k)) + 1).toNatClampNeg y2) (((1800 * x) + (6 * k)) + 2).toNatClampNeg (-1)))), (a1, .inl (cI, 2, .inl ct))] := hD
            refine lv_aload_n hx hb dX9_put_238 rfl (lv_at hl 1 rfl) ?_
            refine va_get (D := (dC, dI)) (ci := 9) (v := .ref a0) (C := RX9) (T := TX9) (N := 17) hx hb hts inc_X9_put_9 hown hG.1 hP 0 rfl rfl 1 (by decide) (hts (.fieldLink RX9 13 "MappingDeskModel" "rows" "[I") (by decide +kernel)) (fun _ h9 => h9) rfl dX9_put_239 ?_
            refine lv_iload hx hb dX9_put_242 (lv_at hl 0 rfl) ?_
            refine lv_iconst (v := 3) hx hb dX9_put_244 (by decide) ?_
            refine lv_iadd hx hb dX9_put_245 ?_
            refine lv_iload hx hb dX9_put_246 (lv_at hl 5 rfl) ?_
            refine lv_if_ge (tgt := 255) hx hb dX9_put_248 (by decide) (fun c_221 => ?_) (fun c_221 => ?_)
            · exact absurd c_221 c_24
            · refine lv_iconst (v := 0) hx hb dX9_put_251 (by decide) ?_
              refine lv_goto (tgt := 257) hx hb dX9_put_252 (by decide) ?_
              have b_222 : vp_in (((1800 * x) + (6 * k)) + 3) 3600 := by
                have k_223 : (0 : Int32).toInt = 0 := by decide
                have q_224 := i_le c_1
                have q_225 := i_nle c_24
                have q_226 := i_nle c_221
                try have hq7 := hct x.toNatClampNeg (cl_lt (by omega) (by omega))
                have k_227 : (1800 : Int32).toInt = 1800 := by decide
                have t_228 : ((1800 * x)).toInt = 1800 * (x).toInt := by
                  have z := ti_mul (a := 1800) (b := x) (by rw [show (1800 : Int32).toInt = 1800 from by decide]; omega) (by rw [show (1800 : Int32).toInt = 1800 from by decide]; omega)
                  rw [z, show (1800 : Int32).toInt = 1800 from by decide]
                have k_229 : (6 : Int32).toInt = 6 := by decide
                have t_230 : ((6 * k)).toInt = 6 * (k).toInt := by
                  have z := ti_mul (a := 6) (b := k) (by rw [show (6 : Int32).toInt = 6 from by decide]; omega) (by rw [show (6 : Int32).toInt = 6 from by decide]; omega)
                  rw [z, show (6 : Int32).toInt = 6 from by decide]
                have t_231 := ti_add (a := (1800 * x)) (b := (6 * k)) (by omega) (by omega)
                have k_232 : (3 : Int32).toInt = 3 := by decide
                have t_233 := ti_add (a := ((1800 * x) + (6 * k))) (b := 3) (by omega) (by omega)
                refine vin ?_ ?_
                all_goals (try generalize Int32.toInt (((1800 * x) + (6 * k)) + 3) = z0 at *; try generalize Int32.toInt ((1800 * x) + (6 * k)) = z1 at *; try generalize Int32.toInt (ct x.toNatClampNeg) = z2 at *; try generalize Int32.toInt (1800 * x) = z3 at *; try generalize Int32.toInt (6 * k) = z4 at *; try generalize Int32.toInt (1800 : Int32) = z5 at *; try generalize Int32.toInt y3 = z6 at *; try generalize Int32.toInt (0 : Int32) = z7 at *; try generalize Int32.toInt (3 : Int32) = z8 at *; try generalize Int32.toInt (6 : Int32) = z9 at *; try generalize Int32.toInt k = z10 at *; try generalize Int32.toInt x = z11 at *; omega)
              refine va_iast hx hb hG.1 hP hD hS 1 2 rfl rfl b_222 dX9_put_257 (fun H locs hP hD hS => ?_)
              have hP : va_P (dC, dI) vwCl [(h0, .inr (9, [.int 0, .ref a0, .ref a1, .ref a2, .int dc, .ref a3, .int tl, .ref a4, .int xl, .int fo, .int fa, .ref a5, .int mn, .ref a6, .int ft, .ref a7, .int wl])), (a0, .inl (cI, 3600, .inl (upd (upd (upd (upd rz ((1800 * x) + (6 * k)).toNatClampNeg y1) (((1800 * x) + (6 * k)) + 1).toNatClampNeg y2) (((1800 * x) + (6 * k)) + 2).toNatClampNeg (-1)) (((1800 * x) + (6 * k)) + 3).toNatClampNeg 0))), (a1, .inl (cI, 2, .inl ct))] H := hP
              have hD : va_D A [(h0, .inr (9, [.int 0, .ref a0, .ref a1, .ref a2, .int dc, .ref a3, .int tl, .ref a4, .int xl, .int fo, .int fa, .ref a5, .int mn, .ref a6, .int ft, .ref a7, .int wl])), (a0, .inl (cI, 3600, .inl (upd (upd (upd (upd rz ((1800 * x) + (6 * k)).toNatClampNeg y1) (((1800 * x) + (6 * k)) + 1).toNatClampNeg y2) (((1800 * x) + (6 * k)) + 2).toNatClampNeg (-1)) (((1800 * x) + (6 * k)) + 3).toNatClampNeg 0))), (a1, .inl (cI, 2, .inl ct))] := hD
              refine lv_aload_n hx hb dX9_put_258 rfl (lv_at hl 1 rfl) ?_
              refine va_get (D := (dC, dI)) (ci := 9) (v := .ref a0) (C := RX9) (T := TX9) (N := 17) hx hb hts inc_X9_put_9 hown hG.1 hP 0 rfl rfl 1 (by decide) (hts (.fieldLink RX9 13 "MappingDeskModel" "rows" "[I") (by decide +kernel)) (fun _ h9 => h9) rfl dX9_put_259 ?_
              refine lv_iload hx hb dX9_put_262 (lv_at hl 0 rfl) ?_
              refine lv_iconst (v := 4) hx hb dX9_put_264 (by decide) ?_
              refine lv_iadd hx hb dX9_put_265 ?_
              refine lv_iload hx hb dX9_put_266 (lv_at hl 5 rfl) ?_
              refine lv_if_ge (tgt := 275) hx hb dX9_put_268 (by decide) (fun c_236 => ?_) (fun c_236 => ?_)
              · exact absurd c_236 c_221
              · refine lv_iconst (v := 0) hx hb dX9_put_271 (by decide) ?_
                refine lv_goto (tgt := 277) hx hb dX9_put_272 (by decide) ?_
                have b_237 : vp_in (((1800 * x) + (6 * k)) + 4) 3600 := by
                  have k_238 : (0 : Int32).toInt = 0 := by decide
                  have q_239 := i_le c_1
                  have q_240 := i_nle c_24
                  have q_241 := i_nle c_221
                  have q_242 := i_nle c_236
                  try have hq7 := hct x.toNatClampNeg (cl_lt (by omega) (by omega))
                  have k_243 : (1800 : Int32).toInt = 1800 := by decide
                  have t_244 : ((1800 * x)).toInt = 1800 * (x).toInt := by
                    have z := ti_mul (a := 1800) (b := x) (by rw [show (1800 : Int32).toInt = 1800 from by decide]; omega) (by rw [show (1800 : Int32).toInt = 1800 from by decide]; omega)
                    rw [z, show (1800 : Int32).toInt = 1800 from by decide]
                  have k_245 : (6 : Int32).toInt = 6 := by decide
                  have t_246 : ((6 * k)).toInt = 6 * (k).toInt := by
                    have z := ti_mul (a := 6) (b := k) (by rw [show (6 : Int32).toInt = 6 from by decide]; omega) (by rw [show (6 : Int32).toInt = 6 from by decide]; omega)
                    rw [z, show (6 : Int32).toInt = 6 from by decide]
                  have t_247 := ti_add (a := (1800 * x)) (b := (6 * k)) (by omega) (by omega)
                  have k_248 : (4 : Int32).toInt = 4 := by decide
                  have t_249 := ti_add (a := ((1800 * x) + (6 * k))) (b := 4) (by omega) (by omega)
                  refine vin ?_ ?_
                  all_goals (try generalize Int32.toInt (((1800 * x) + (6 * k)) + 4) = z0 at *; try generalize Int32.toInt ((1800 * x) + (6 * k)) = z1 at *; try generalize Int32.toInt (ct x.toNatClampNeg) = z2 at *; try generalize Int32.toInt (1800 * x) = z3 at *; try generalize Int32.toInt (6 * k) = z4 at *; try generalize Int32.toInt (1800 : Int32) = z5 at *; try generalize Int32.toInt y3 = z6 at *; try generalize Int32.toInt (0 : Int32) = z7 at *; try generalize Int32.toInt (4 : Int32) = z8 at *; try generalize Int32.toInt (6 : Int32) = z9 at *; try generalize Int32.toInt k = z10 at *; try generalize Int32.toInt x = z11 at *; omega)
                refine va_iast hx hb hG.1 hP hD hS 1 2 rfl rfl b_237 dX9_put_277 (fun H locs hP hD hS => ?_)
                have hP : va_P (dC, dI) vwCl [(h0, .inr (9, [.int 0, .ref a0, .ref a1, .ref a2, .int dc, .ref a3, .int tl, .ref a4, .int xl, .int fo, .int fa, .ref a5, .int mn, .ref a6, .int ft, .ref a7, .int wl])), (a0, .inl (cI, 3600, .inl (upd (upd (upd (upd (upd rz ((1800 * x) + (6 * k)).toNatClampNeg y1) (((1800 * x) + (6 * k)) + 1).toNatClampNeg y2) (((1800 * x) + (6 * k)) + 2).toNatClampNeg (-1)) (((1800 * x) + (6 * k)) + 3).toNatClampNeg 0) (((1800 * x) + (6 * k)) + 4).toNatClampNeg 0))), (a1, .inl (cI, 2, .inl ct))] H := hP
                have hD : va_D A [(h0, .inr (9, [.int 0, .ref a0, .ref a1, .ref a2, .int dc, .ref a3, .int tl, .ref a4, .int xl, .int fo, .int fa, .ref a5, .int mn, .ref a6, .int ft, .ref a7, .int wl])), (a0, .inl (cI, 3600, .inl (upd (upd (upd (upd (upd rz ((1800 * x) + (6 * k)).toNatClampNeg y1) (((1800 * x) + (6 * k)) + 1).toNatClampNeg y2) (((1800 * x) + (6 * k)) + 2).toNatClampNeg (-1)) (((1800 * x) + (6 * k)) + 3).toNatClampNeg 0) (((1800 * x) + (6 * k)) + 4).toNatClampNeg 0))), (a1, .inl (cI, 2, .inl ct))] := hD
                refine lv_aload_n hx hb dX9_put_278 rfl (lv_at hl 1 rfl) ?_
                refine va_get (D := (dC, dI)) (ci := 9) (v := .ref a0) (C := RX9) (T := TX9) (N := 17) hx hb hts inc_X9_put_9 hown hG.1 hP 0 rfl rfl 1 (by decide) (hts (.fieldLink RX9 13 "MappingDeskModel" "rows" "[I") (by decide +kernel)) (fun _ h9 => h9) rfl dX9_put_279 ?_
                refine lv_iload hx hb dX9_put_282 (lv_at hl 0 rfl) ?_
                refine lv_iconst (v := 5) hx hb dX9_put_284 (by decide) ?_
                refine lv_iadd hx hb dX9_put_285 ?_
                refine lv_iload hx hb dX9_put_286 (lv_at hl 5 rfl) ?_
                refine lv_if_lt (tgt := 296) hx hb dX9_put_288 (by decide) (fun c_252 => ?_) (fun c_252 => ?_)
                · rw [if_pos c_252] at hR
                  refine lv_iconst (v := (-1)) hx hb dX9_put_296 (by decide) ?_
                  refine lv_goto (tgt := 302) hx hb dX9_put_297 (by decide) ?_
                  have b_253 : vp_in (((1800 * x) + (6 * k)) + 5) 3600 := by
                    have k_254 : (0 : Int32).toInt = 0 := by decide
                    have q_255 := i_le c_1
                    have q_256 := i_nle c_24
                    have q_257 := i_nle c_221
                    have q_258 := i_nle c_236
                    have q_259 := i_lt c_252
                    try have hq7 := hct x.toNatClampNeg (cl_lt (by omega) (by omega))
                    have k_260 : (1800 : Int32).toInt = 1800 := by decide
                    have t_261 : ((1800 * x)).toInt = 1800 * (x).toInt := by
                      have z := ti_mul (a := 1800) (b := x) (by rw [show (1800 : Int32).toInt = 1800 from by decide]; omega) (by rw [show (1800 : Int32).toInt = 1800 from by decide]; omega)
                      rw [z, show (1800 : Int32).toInt = 1800 from by decide]
                    have k_262 : (6 : Int32).toInt = 6 := by decide
                    have t_263 : ((6 * k)).toInt = 6 * (k).toInt := by
                      have z := ti_mul (a := 6) (b := k) (by rw [show (6 : Int32).toInt = 6 from by decide]; omega) (by rw [show (6 : Int32).toInt = 6 from by decide]; omega)
                      rw [z, show (6 : Int32).toInt = 6 from by decide]
                    have t_264 := ti_add (a := (1800 * x)) (b := (6 * k)) (by omega) (by omega)
                    have k_265 : (5 : Int32).toInt = 5 := by decide
                    have t_266 := ti_add (a := ((1800 * x) + (6 * k))) (b := 5) (by omega) (by omega)
                    refine vin ?_ ?_
                    all_goals (try generalize Int32.toInt (((1800 * x) + (6 * k)) + 5) = z0 at *; try generalize Int32.toInt ((1800 * x) + (6 * k)) = z1 at *; try generalize Int32.toInt (ct x.toNatClampNeg) = z2 at *; try generalize Int32.toInt (1800 * x) = z3 at *; try generalize Int32.toInt (6 * k) = z4 at *; try generalize Int32.toInt (1800 : Int32) = z5 at *; try generalize Int32.toInt y3 = z6 at *; try generalize Int32.toInt (0 : Int32) = z7 at *; try generalize Int32.toInt (5 : Int32) = z8 at *; try generalize Int32.toInt (6 : Int32) = z9 at *; try generalize Int32.toInt k = z10 at *; try generalize Int32.toInt x = z11 at *; omega)
                  refine va_iast hx hb hG.1 hP hD hS 1 2 rfl rfl b_253 dX9_put_302 (fun H locs hP hD hS => ?_)
                  have hP : va_P (dC, dI) vwCl [(h0, .inr (9, [.int 0, .ref a0, .ref a1, .ref a2, .int dc, .ref a3, .int tl, .ref a4, .int xl, .int fo, .int fa, .ref a5, .int mn, .ref a6, .int ft, .ref a7, .int wl])), (a0, .inl (cI, 3600, .inl (upd (upd (upd (upd (upd (upd rz ((1800 * x) + (6 * k)).toNatClampNeg y1) (((1800 * x) + (6 * k)) + 1).toNatClampNeg y2) (((1800 * x) + (6 * k)) + 2).toNatClampNeg (-1)) (((1800 * x) + (6 * k)) + 3).toNatClampNeg 0) (((1800 * x) + (6 * k)) + 4).toNatClampNeg 0) (((1800 * x) + (6 * k)) + 5).toNatClampNeg (-1)))), (a1, .inl (cI, 2, .inl ct))] H := hP
                  have hD : va_D A [(h0, .inr (9, [.int 0, .ref a0, .ref a1, .ref a2, .int dc, .ref a3, .int tl, .ref a4, .int xl, .int fo, .int fa, .ref a5, .int mn, .ref a6, .int ft, .ref a7, .int wl])), (a0, .inl (cI, 3600, .inl (upd (upd (upd (upd (upd (upd rz ((1800 * x) + (6 * k)).toNatClampNeg y1) (((1800 * x) + (6 * k)) + 1).toNatClampNeg y2) (((1800 * x) + (6 * k)) + 2).toNatClampNeg (-1)) (((1800 * x) + (6 * k)) + 3).toNatClampNeg 0) (((1800 * x) + (6 * k)) + 4).toNatClampNeg 0) (((1800 * x) + (6 * k)) + 5).toNatClampNeg (-1)))), (a1, .inl (cI, 2, .inl ct))] := hD
                  refine lv_aload_n hx hb dX9_put_303 rfl (lv_at hl 1 rfl) ?_
                  refine va_get (D := (dC, dI)) (ci := 9) (v := .ref a1) (C := RX9) (T := TX9) (N := 17) hx hb hts inc_X9_put_9 hown hG.1 hP 0 rfl rfl 2 (by decide) (hts (.fieldLink RX9 17 "MappingDeskModel" "count" "[I") (by decide +kernel)) (fun _ h9 => h9) rfl dX9_put_304 ?_
                  refine lv_iload_n hx hb dX9_put_307 rfl (lv_at hl 2 rfl) ?_
                  refine lv_dup2_11 hx hb dX9_put_308 rfl rfl ?_
                  have b_269 : vp_in x 2 := by
                    have k_270 : (0 : Int32).toInt = 0 := by decide
                    have q_271 := i_le c_1
                    have q_272 := i_nle c_24
                    have q_273 := i_nle c_221
                    have q_274 := i_nle c_236
                    have q_275 := i_lt c_252
                    try have hq7 := hct x.toNatClampNeg (cl_lt (by omega) (by omega))
                    refine vin ?_ ?_
                    all_goals (try generalize Int32.toInt (ct x.toNatClampNeg) = z0 at *; try generalize Int32.toInt y3 = z1 at *; try generalize Int32.toInt (0 : Int32) = z2 at *; try generalize Int32.toInt k = z3 at *; try generalize Int32.toInt x = z4 at *; omega)
                  refine va_iald hx hb hG.1 hP 2 2 rfl rfl b_269 dX9_put_309 ?_
                  refine lv_iconst (v := 1) hx hb dX9_put_310 (by decide) ?_
                  refine lv_iadd hx hb dX9_put_311 ?_
                  have b_278 : vp_in x 2 := by
                    have k_279 : (0 : Int32).toInt = 0 := by decide
                    have q_280 := i_le c_1
                    have q_281 := i_nle c_24
                    have q_282 := i_nle c_221
                    have q_283 := i_nle c_236
                    have q_284 := i_lt c_252
                    try have hq7 := hct x.toNatClampNeg (cl_lt (by omega) (by omega))
                    refine vin ?_ ?_
                    all_goals (try generalize Int32.toInt (ct x.toNatClampNeg) = z0 at *; try generalize Int32.toInt y3 = z1 at *; try generalize Int32.toInt (0 : Int32) = z2 at *; try generalize Int32.toInt k = z3 at *; try generalize Int32.toInt x = z4 at *; omega)
                  refine va_iast hx hb hG.1 hP hD hS 2 2 rfl rfl b_278 dX9_put_312 (fun H locs hP hD hS => ?_)
                  have hP : va_P (dC, dI) vwCl [(h0, .inr (9, [.int 0, .ref a0, .ref a1, .ref a2, .int dc, .ref a3, .int tl, .ref a4, .int xl, .int fo, .int fa, .ref a5, .int mn, .ref a6, .int ft, .ref a7, .int wl])), (a0, .inl (cI, 3600, .inl (upd (upd (upd (upd (upd (upd rz ((1800 * x) + (6 * k)).toNatClampNeg y1) (((1800 * x) + (6 * k)) + 1).toNatClampNeg y2) (((1800 * x) + (6 * k)) + 2).toNatClampNeg (-1)) (((1800 * x) + (6 * k)) + 3).toNatClampNeg 0) (((1800 * x) + (6 * k)) + 4).toNatClampNeg 0) (((1800 * x) + (6 * k)) + 5).toNatClampNeg (-1)))), (a1, .inl (cI, 2, .inl (upd ct x.toNatClampNeg ((ct x.toNatClampNeg) + 1))))] H := hP
                  have hD : va_D A [(h0, .inr (9, [.int 0, .ref a0, .ref a1, .ref a2, .int dc, .ref a3, .int tl, .ref a4, .int xl, .int fo, .int fa, .ref a5, .int mn, .ref a6, .int ft, .ref a7, .int wl])), (a0, .inl (cI, 3600, .inl (upd (upd (upd (upd (upd (upd rz ((1800 * x) + (6 * k)).toNatClampNeg y1) (((1800 * x) + (6 * k)) + 1).toNatClampNeg y2) (((1800 * x) + (6 * k)) + 2).toNatClampNeg (-1)) (((1800 * x) + (6 * k)) + 3).toNatClampNeg 0) (((1800 * x) + (6 * k)) + 4).toNatClampNeg 0) (((1800 * x) + (6 * k)) + 5).toNatClampNeg (-1)))), (a1, .inl (cI, 2, .inl (upd ct x.toNatClampNeg ((ct x.toNatClampNeg) + 1))))] := hD
                  refine lv_aload_n hx hb dX9_put_313 rfl (lv_at hl 1 rfl) ?_
                  refine va_get (D := (dC, dI)) (ci := 9) (v := .ref a1) (C := RX9) (T := TX9) (N := 17) hx hb hts inc_X9_put_9 hown hG.1 hP 0 rfl rfl 2 (by decide) (hts (.fieldLink RX9 17 "MappingDeskModel" "count" "[I") (by decide +kernel)) (fun _ h9 => h9) rfl dX9_put_314 ?_
                  refine lv_iload_n hx hb dX9_put_317 rfl (lv_at hl 2 rfl) ?_
                  have b_287 : vp_in x 2 := by
                    have k_288 : (0 : Int32).toInt = 0 := by decide
                    have q_289 := i_le c_1
                    have q_290 := i_nle c_24
                    have q_291 := i_nle c_221
                    have q_292 := i_nle c_236
                    have q_293 := i_lt c_252
                    try have hq7 := hct x.toNatClampNeg (cl_lt (by omega) (by omega))
                    refine vin ?_ ?_
                    all_goals (try generalize Int32.toInt (ct x.toNatClampNeg) = z0 at *; try generalize Int32.toInt y3 = z1 at *; try generalize Int32.toInt (0 : Int32) = z2 at *; try generalize Int32.toInt k = z3 at *; try generalize Int32.toInt x = z4 at *; omega)
                  refine va_iald hx hb hG.1 hP 2 2 rfl rfl b_287 dX9_put_318 ?_
                  subst hR
                  exact W.iret (v := ((upd ct x.toNatClampNeg ((ct x.toNatClampNeg) + 1)) x.toNatClampNeg)) hx hb hr (fun t ht hW => ⟨⟨((upd ct x.toNatClampNeg ((ct x.toNatClampNeg) + 1)) x.toNatClampNeg), (), rfl, rfl, by rw [ht]; exact hP, hD⟩, hS.F ht⟩) hS.2.2 dX9_put_319
                · rw [if_neg c_252] at hR
                  refine lv_iload hx hb dX9_put_291 (lv_at hl 8 rfl) ?_
                  refine lv_if_ge (tgt := 300) hx hb dX9_put_293 (by decide) (fun c_296 => ?_) (fun c_296 => ?_)
                  · rw [if_pos c_296] at hR
                    refine lv_iload hx hb dX9_put_300 (lv_at hl 8 rfl) ?_
                    have b_297 : vp_in (((1800 * x) + (6 * k)) + 5) 3600 := by
                      have k_298 : (0 : Int32).toInt = 0 := by decide
                      have q_299 := i_le c_1
                      have q_300 := i_nle c_24
                      have q_301 := i_nle c_221
                      have q_302 := i_nle c_236
                      have q_303 := i_nlt c_252
                      have q_304 := i_le c_296
                      try have hq7 := hct x.toNatClampNeg (cl_lt (by omega) (by omega))
                      have k_305 : (1800 : Int32).toInt = 1800 := by decide
                      have t_306 : ((1800 * x)).toInt = 1800 * (x).toInt := by
                        have z := ti_mul (a := 1800) (b := x) (by rw [show (1800 : Int32).toInt = 1800 from by decide]; omega) (by rw [show (1800 : Int32).toInt = 1800 from by decide]; omega)
                        rw [z, show (1800 : Int32).toInt = 1800 from by decide]
                      have k_307 : (6 : Int32).toInt = 6 := by decide
                      have t_308 : ((6 * k)).toInt = 6 * (k).toInt := by
                        have z := ti_mul (a := 6) (b := k) (by rw [show (6 : Int32).toInt = 6 from by decide]; omega) (by rw [show (6 : Int32).toInt = 6 from by decide]; omega)
                        rw [z, show (6 : Int32).toInt = 6 from by decide]
                      have t_309 := ti_add (a := (1800 * x)) (b := (6 * k)) (by omega) (by omega)
                      have k_310 : (5 : Int32).toInt = 5 := by decide
                      have t_311 := ti_add (a := ((1800 * x) + (6 * k))) (b := 5) (by omega) (by omega)
                      refine vin ?_ ?_
                      all_goals (try generalize Int32.toInt (((1800 * x) + (6 * k)) + 5) = z0 at *; try generalize Int32.toInt ((1800 * x) + (6 * k)) = z1 at *; try generalize Int32.toInt (ct x.toNatClampNeg) = z2 at *; try generalize Int32.toInt (1800 * x) = z3 at *; try generalize Int32.toInt (6 * k) = z4 at *; try generalize Int32.toInt (1800 : Int32) = z5 at *; try generalize Int32.toInt y3 = z6 at *; try generalize Int32.toInt y6 = z7 at *; try generalize Int32.toInt (0 : Int32) = z8 at *; try generalize Int32.toInt (5 : Int32) = z9 at *; try generalize Int32.toInt (6 : Int32) = z10 at *; try generalize Int32.toInt k = z11 at *; try generalize Int32.toInt x = z12 at *; omega)
                    refine va_iast hx hb hG.1 hP hD hS 1 2 rfl rfl b_297 dX9_put_302 (fun H locs hP hD hS => ?_)
                    have hP : va_P (dC, dI) vwCl [(h0, .inr (9, [.int 0, .ref a0, .ref a1, .ref a2, .int dc, .ref a3, .int tl, .ref a4, .int xl, .int fo, .int fa, .ref a5, .int mn, .ref a6, .int ft, .ref a7, .int wl])), (a0, .inl (cI, 3600, .inl (upd (upd (upd (upd (upd (upd rz ((1800 * x) + (6 * k)).toNatClampNeg y1) (((1800 * x) + (6 * k)) + 1).toNatClampNeg y2) (((1800 * x) + (6 * k)) + 2).toNatClampNeg (-1)) (((1800 * x) + (6 * k)) + 3).toNatClampNeg 0) (((1800 * x) + (6 * k)) + 4).toNatClampNeg 0) (((1800 * x) + (6 * k)) + 5).toNatClampNeg y6))), (a1, .inl (cI, 2, .inl ct))] H := hP
                    have hD : va_D A [(h0, .inr (9, [.int 0, .ref a0, .ref a1, .ref a2, .int dc, .ref a3, .int tl, .ref a4, .int xl, .int fo, .int fa, .ref a5, .int mn, .ref a6, .int ft, .ref a7, .int wl])), (a0, .inl (cI, 3600, .inl (upd (upd (upd (upd (upd (upd rz ((1800 * x) + (6 * k)).toNatClampNeg y1) (((1800 * x) + (6 * k)) + 1).toNatClampNeg y2) (((1800 * x) + (6 * k)) + 2).toNatClampNeg (-1)) (((1800 * x) + (6 * k)) + 3).toNatClampNeg 0) (((1800 * x) + (6 * k)) + 4).toNatClampNeg 0) (((1800 * x) + (6 * k)) + 5).toNatClampNeg y6))), (a1, .inl (cI, 2, .inl ct))] := hD
                    refine lv_aload_n hx hb dX9_put_303 rfl (lv_at hl 1 rfl) ?_
                    refine va_get (D := (dC, dI)) (ci := 9) (v := .ref a1) (C := RX9) (T := TX9) (N := 17) hx hb hts inc_X9_put_9 hown hG.1 hP 0 rfl rfl 2 (by decide) (hts (.fieldLink RX9 17 "MappingDeskModel" "count" "[I") (by decide +kernel)) (fun _ h9 => h9) rfl dX9_put_304 ?_
                    refine lv_iload_n hx hb dX9_put_307 rfl (lv_at hl 2 rfl) ?_
                    refine lv_dup2_11 hx hb dX9_put_308 rfl rfl ?_
                    have b_314 : vp_in x 2 := by
                      have k_315 : (0 : Int32).toInt = 0 := by decide
                      have q_316 := i_le c_1
                      have q_317 := i_nle c_24
                      have q_318 := i_nle c_221
                      have q_319 := i_nle c_236
                      have q_320 := i_nlt c_252
                      have q_321 := i_le c_296
                      try have hq7 := hct x.toNatClampNeg (cl_lt (by omega) (by omega))
                      refine vin ?_ ?_
                      all_goals (try generalize Int32.toInt (ct x.toNatClampNeg) = z0 at *; try generalize Int32.toInt y3 = z1 at *; try generalize Int32.toInt y6 = z2 at *; try generalize Int32.toInt (0 : Int32) = z3 at *; try generalize Int32.toInt k = z4 at *; try generalize Int32.toInt x = z5 at *; omega)
                    refine va_iald hx hb hG.1 hP 2 2 rfl rfl b_314 dX9_put_309 ?_
                    refine lv_iconst (v := 1) hx hb dX9_put_310 (by decide) ?_
                    refine lv_iadd hx hb dX9_put_311 ?_
                    have b_324 : vp_in x 2 := by
                      have k_325 : (0 : Int32).toInt = 0 := by decide
                      have q_326 := i_le c_1
                      have q_327 := i_nle c_24
                      have q_328 := i_nle c_221
                      have q_329 := i_nle c_236
                      have q_330 := i_nlt c_252
                      have q_331 := i_le c_296
                      try have hq7 := hct x.toNatClampNeg (cl_lt (by omega) (by omega))
                      refine vin ?_ ?_
                      all_goals (try generalize Int32.toInt (ct x.toNatClampNeg) = z0 at *; try generalize Int32.toInt y3 = z1 at *; try generalize Int32.toInt y6 = z2 at *; try generalize Int32.toInt (0 : Int32) = z3 at *; try generalize Int32.toInt k = z4 at *; try generalize Int32.toInt x = z5 at *; omega)
                    refine va_iast hx hb hG.1 hP hD hS 2 2 rfl rfl b_324 dX9_put_312 (fun H locs hP hD hS => ?_)
                    have hP : va_P (dC, dI) vwCl [(h0, .inr (9, [.int 0, .ref a0, .ref a1, .ref a2, .int dc, .ref a3, .int tl, .ref a4, .int xl, .int fo, .int fa, .ref a5, .int mn, .ref a6, .int ft, .ref a7, .int wl])), (a0, .inl (cI, 3600, .inl (upd (upd (upd (upd (upd (upd rz ((1800 * x) + (6 * k)).toNatClampNeg y1) (((1800 * x) + (6 * k)) + 1).toNatClampNeg y2) (((1800 * x) + (6 * k)) + 2).toNatClampNeg (-1)) (((1800 * x) + (6 * k)) + 3).toNatClampNeg 0) (((1800 * x) + (6 * k)) + 4).toNatClampNeg 0) (((1800 * x) + (6 * k)) + 5).toNatClampNeg y6))), (a1, .inl (cI, 2, .inl (upd ct x.toNatClampNeg ((ct x.toNatClampNeg) + 1))))] H := hP
                    have hD : va_D A [(h0, .inr (9, [.int 0, .ref a0, .ref a1, .ref a2, .int dc, .ref a3, .int tl, .ref a4, .int xl, .int fo, .int fa, .ref a5, .int mn, .ref a6, .int ft, .ref a7, .int wl])), (a0, .inl (cI, 3600, .inl (upd (upd (upd (upd (upd (upd rz ((1800 * x) + (6 * k)).toNatClampNeg y1) (((1800 * x) + (6 * k)) + 1).toNatClampNeg y2) (((1800 * x) + (6 * k)) + 2).toNatClampNeg (-1)) (((1800 * x) + (6 * k)) + 3).toNatClampNeg 0) (((1800 * x) + (6 * k)) + 4).toNatClampNeg 0) (((1800 * x) + (6 * k)) + 5).toNatClampNeg y6))), (a1, .inl (cI, 2, .inl (upd ct x.toNatClampNeg ((ct x.toNatClampNeg) + 1))))] := hD
                    refine lv_aload_n hx hb dX9_put_313 rfl (lv_at hl 1 rfl) ?_
                    refine va_get (D := (dC, dI)) (ci := 9) (v := .ref a1) (C := RX9) (T := TX9) (N := 17) hx hb hts inc_X9_put_9 hown hG.1 hP 0 rfl rfl 2 (by decide) (hts (.fieldLink RX9 17 "MappingDeskModel" "count" "[I") (by decide +kernel)) (fun _ h9 => h9) rfl dX9_put_314 ?_
                    refine lv_iload_n hx hb dX9_put_317 rfl (lv_at hl 2 rfl) ?_
                    have b_334 : vp_in x 2 := by
                      have k_335 : (0 : Int32).toInt = 0 := by decide
                      have q_336 := i_le c_1
                      have q_337 := i_nle c_24
                      have q_338 := i_nle c_221
                      have q_339 := i_nle c_236
                      have q_340 := i_nlt c_252
                      have q_341 := i_le c_296
                      try have hq7 := hct x.toNatClampNeg (cl_lt (by omega) (by omega))
                      refine vin ?_ ?_
                      all_goals (try generalize Int32.toInt (ct x.toNatClampNeg) = z0 at *; try generalize Int32.toInt y3 = z1 at *; try generalize Int32.toInt y6 = z2 at *; try generalize Int32.toInt (0 : Int32) = z3 at *; try generalize Int32.toInt k = z4 at *; try generalize Int32.toInt x = z5 at *; omega)
                    refine va_iald hx hb hG.1 hP 2 2 rfl rfl b_334 dX9_put_318 ?_
                    subst hR
                    exact W.iret (v := ((upd ct x.toNatClampNeg ((ct x.toNatClampNeg) + 1)) x.toNatClampNeg)) hx hb hr (fun t ht hW => ⟨⟨((upd ct x.toNatClampNeg ((ct x.toNatClampNeg) + 1)) x.toNatClampNeg), (), rfl, rfl, by rw [ht]; exact hP, hD⟩, hS.F ht⟩) hS.2.2 dX9_put_319
                  · rw [if_neg c_296] at hR
                    refine lv_iconst (v := (-1)) hx hb dX9_put_296 (by decide) ?_
                    refine lv_goto (tgt := 302) hx hb dX9_put_297 (by decide) ?_
                    have b_344 : vp_in (((1800 * x) + (6 * k)) + 5) 3600 := by
                      have k_345 : (0 : Int32).toInt = 0 := by decide
                      have q_346 := i_le c_1
                      have q_347 := i_nle c_24
                      have q_348 := i_nle c_221
                      have q_349 := i_nle c_236
                      have q_350 := i_nlt c_252
                      have q_351 := i_nle c_296
                      try have hq7 := hct x.toNatClampNeg (cl_lt (by omega) (by omega))
                      have k_352 : (1800 : Int32).toInt = 1800 := by decide
                      have t_353 : ((1800 * x)).toInt = 1800 * (x).toInt := by
                        have z := ti_mul (a := 1800) (b := x) (by rw [show (1800 : Int32).toInt = 1800 from by decide]; omega) (by rw [show (1800 : Int32).toInt = 1800 from by decide]; omega)
                        rw [z, show (1800 : Int32).toInt = 1800 from by decide]
                      have k_354 : (6 : Int32).toInt = 6 := by decide
                      have t_355 : ((6 * k)).toInt = 6 * (k).toInt := by
                        have z := ti_mul (a := 6) (b := k) (by rw [show (6 : Int32).toInt = 6 from by decide]; omega) (by rw [show (6 : Int32).toInt = 6 from by decide]; omega)
                        rw [z, show (6 : Int32).toInt = 6 from by decide]
                      have t_356 := ti_add (a := (1800 * x)) (b := (6 * k)) (by omega) (by omega)
                      have k_357 : (5 : Int32).toInt = 5 := by decide
                      have t_358 := ti_add (a := ((1800 * x) + (6 * k))) (b := 5) (by omega) (by omega)
                      refine vin ?_ ?_
                      all_goals (try generalize Int32.toInt (((1800 * x) + (6 * k)) + 5) = z0 at *; try generalize Int32.toInt ((1800 * x) + (6 * k)) = z1 at *; try generalize Int32.toInt (ct x.toNatClampNeg) = z2 at *; try generalize Int32.toInt (1800 * x) = z3 at *; try generalize Int32.toInt (6 * k) = z4 at *; try generalize Int32.toInt (1800 : Int32) = z5 at *; try generalize Int32.toInt y3 = z6 at *; try generalize Int32.toInt y6 = z7 at *; try generalize Int32.toInt (0 : Int32) = z8 at *; try generalize Int32.toInt (5 : Int32) = z9 at *; try generalize Int32.toInt (6 : Int32) = z10 at *; try generalize Int32.toInt k = z11 at *; try generalize Int32.toInt x = z12 at *; omega)
                    refine va_iast hx hb hG.1 hP hD hS 1 2 rfl rfl b_344 dX9_put_302 (fun H locs hP hD hS => ?_)
                    have hP : va_P (dC, dI) vwCl [(h0, .inr (9, [.int 0, .ref a0, .ref a1, .ref a2, .int dc, .ref a3, .int tl, .ref a4, .int xl, .int fo, .int fa, .ref a5, .int mn, .ref a6, .int ft, .ref a7, .int wl])), (a0, .inl (cI, 3600, .inl (upd (upd (upd (upd (upd (upd rz ((1800 * x) + (6 * k)).toNatClampNeg y1) (((1800 * x) + (6 * k)) + 1).toNatClampNeg y2) (((1800 * x) + (6 * k)) + 2).toNatClampNeg (-1)) (((1800 * x) + (6 * k)) + 3).toNatClampNeg 0) (((1800 * x) + (6 * k)) + 4).toNatClampNeg 0) (((1800 * x) + (6 * k)) + 5).toNatClampNeg (-1)))), (a1, .inl (cI, 2, .inl ct))] H := hP
                    have hD : va_D A [(h0, .inr (9, [.int 0, .ref a0, .ref a1, .ref a2, .int dc, .ref a3, .int tl, .ref a4, .int xl, .int fo, .int fa, .ref a5, .int mn, .ref a6, .int ft, .ref a7, .int wl])), (a0, .inl (cI, 3600, .inl (upd (upd (upd (upd (upd (upd rz ((1800 * x) + (6 * k)).toNatClampNeg y1) (((1800 * x) + (6 * k)) + 1).toNatClampNeg y2) (((1800 * x) + (6 * k)) + 2).toNatClampNeg (-1)) (((1800 * x) + (6 * k)) + 3).toNatClampNeg 0) (((1800 * x) + (6 * k)) + 4).toNatClampNeg 0) (((1800 * x) + (6 * k)) + 5).toNatClampNeg (-1)))), (a1, .inl (cI, 2, .inl ct))] := hD
                    refine lv_aload_n hx hb dX9_put_303 rfl (lv_at hl 1 rfl) ?_
                    refine va_get (D := (dC, dI)) (ci := 9) (v := .ref a1) (C := RX9) (T := TX9) (N := 17) hx hb hts inc_X9_put_9 hown hG.1 hP 0 rfl rfl 2 (by decide) (hts (.fieldLink RX9 17 "MappingDeskModel" "count" "[I") (by decide +kernel)) (fun _ h9 => h9) rfl dX9_put_304 ?_
                    refine lv_iload_n hx hb dX9_put_307 rfl (lv_at hl 2 rfl) ?_
                    refine lv_dup2_11 hx hb dX9_put_308 rfl rfl ?_
                    have b_361 : vp_in x 2 := by
                      have k_362 : (0 : Int32).toInt = 0 := by decide
                      have q_363 := i_le c_1
                      have q_364 := i_nle c_24
                      have q_365 := i_nle c_221
                      have q_366 := i_nle c_236
                      have q_367 := i_nlt c_252
                      have q_368 := i_nle c_296
                      try have hq7 := hct x.toNatClampNeg (cl_lt (by omega) (by omega))
                      refine vin ?_ ?_
                      all_goals (try generalize Int32.toInt (ct x.toNatClampNeg) = z0 at *; try generalize Int32.toInt y3 = z1 at *; try generalize Int32.toInt y6 = z2 at *; try generalize Int32.toInt (0 : Int32) = z3 at *; try generalize Int32.toInt k = z4 at *; try generalize Int32.toInt x = z5 at *; omega)
                    refine va_iald hx hb hG.1 hP 2 2 rfl rfl b_361 dX9_put_309 ?_
                    refine lv_iconst (v := 1) hx hb dX9_put_310 (by decide) ?_
                    refine lv_iadd hx hb dX9_put_311 ?_
                    have b_371 : vp_in x 2 := by
                      have k_372 : (0 : Int32).toInt = 0 := by decide
                      have q_373 := i_le c_1
                      have q_374 := i_nle c_24
                      have q_375 := i_nle c_221
                      have q_376 := i_nle c_236
                      have q_377 := i_nlt c_252
                      have q_378 := i_nle c_296
                      try have hq7 := hct x.toNatClampNeg (cl_lt (by omega) (by omega))
                      refine vin ?_ ?_
                      all_goals (try generalize Int32.toInt (ct x.toNatClampNeg) = z0 at *; try generalize Int32.toInt y3 = z1 at *; try generalize Int32.toInt y6 = z2 at *; try generalize Int32.toInt (0 : Int32) = z3 at *; try generalize Int32.toInt k = z4 at *; try generalize Int32.toInt x = z5 at *; omega)
                    refine va_iast hx hb hG.1 hP hD hS 2 2 rfl rfl b_371 dX9_put_312 (fun H locs hP hD hS => ?_)
                    have hP : va_P (dC, dI) vwCl [(h0, .inr (9, [.int 0, .ref a0, .ref a1, .ref a2, .int dc, .ref a3, .int tl, .ref a4, .int xl, .int fo, .int fa, .ref a5, .int mn, .ref a6, .int ft, .ref a7, .int wl])), (a0, .inl (cI, 3600, .inl (upd (upd (upd (upd (upd (upd rz ((1800 * x) + (6 * k)).toNatClampNeg y1) (((1800 * x) + (6 * k)) + 1).toNatClampNeg y2) (((1800 * x) + (6 * k)) + 2).toNatClampNeg (-1)) (((1800 * x) + (6 * k)) + 3).toNatClampNeg 0) (((1800 * x) + (6 * k)) + 4).toNatClampNeg 0) (((1800 * x) + (6 * k)) + 5).toNatClampNeg (-1)))), (a1, .inl (cI, 2, .inl (upd ct x.toNatClampNeg ((ct x.toNatClampNeg) + 1))))] H := hP
                    have hD : va_D A [(h0, .inr (9, [.int 0, .ref a0, .ref a1, .ref a2, .int dc, .ref a3, .int tl, .ref a4, .int xl, .int fo, .int fa, .ref a5, .int mn, .ref a6, .int ft, .ref a7, .int wl])), (a0, .inl (cI, 3600, .inl (upd (upd (upd (upd (upd (upd rz ((1800 * x) + (6 * k)).toNatClampNeg y1) (((1800 * x) + (6 * k)) + 1).toNatClampNeg y2) (((1800 * x) + (6 * k)) + 2).toNatClampNeg (-1)) (((1800 * x) + (6 * k)) + 3).toNatClampNeg 0) (((1800 * x) + (6 * k)) + 4).toNatClampNeg 0) (((1800 * x) + (6 * k)) + 5).toNatClampNeg (-1)))), (a1, .inl (cI, 2, .inl (upd ct x.toNatClampNeg ((ct x.toNatClampNeg) + 1))))] := hD
                    refine lv_aload_n hx hb dX9_put_313 rfl (lv_at hl 1 rfl) ?_
                    refine va_get (D := (dC, dI)) (ci := 9) (v := .ref a1) (C := RX9) (T := TX9) (N := 17) hx hb hts inc_X9_put_9 hown hG.1 hP 0 rfl rfl 2 (by decide) (hts (.fieldLink RX9 17 "MappingDeskModel" "count" "[I") (by decide +kernel)) (fun _ h9 => h9) rfl dX9_put_314 ?_
                    refine lv_iload_n hx hb dX9_put_317 rfl (lv_at hl 2 rfl) ?_
                    have b_381 : vp_in x 2 := by
                      have k_382 : (0 : Int32).toInt = 0 := by decide
                      have q_383 := i_le c_1
                      have q_384 := i_nle c_24
                      have q_385 := i_nle c_221
                      have q_386 := i_nle c_236
                      have q_387 := i_nlt c_252
                      have q_388 := i_nle c_296
                      try have hq7 := hct x.toNatClampNeg (cl_lt (by omega) (by omega))
                      refine vin ?_ ?_
                      all_goals (try generalize Int32.toInt (ct x.toNatClampNeg) = z0 at *; try generalize Int32.toInt y3 = z1 at *; try generalize Int32.toInt y6 = z2 at *; try generalize Int32.toInt (0 : Int32) = z3 at *; try generalize Int32.toInt k = z4 at *; try generalize Int32.toInt x = z5 at *; omega)
                    refine va_iald hx hb hG.1 hP 2 2 rfl rfl b_381 dX9_put_318 ?_
                    subst hR
                    exact W.iret (v := ((upd ct x.toNatClampNeg ((ct x.toNatClampNeg) + 1)) x.toNatClampNeg)) hx hb hr (fun t ht hW => ⟨⟨((upd ct x.toNatClampNeg ((ct x.toNatClampNeg) + 1)) x.toNatClampNeg), (), rfl, rfl, by rw [ht]; exact hP, hD⟩, hS.F ht⟩) hS.2.2 dX9_put_319
        · rw [if_neg c_1] at hR
          refine lv_aload_n hx hb dX9_put_115 rfl (lv_at hl 0 rfl) ?_
          refine lv_iload hx hb dX9_put_116 (lv_at hl 8 rfl) ?_
          refine lv_bipush (v := 6) hx hb dX9_put_118 (by decide) ?_
          refine lv_iload hx hb dX9_put_120 (lv_at hl 9 rfl) ?_
          refine lv_iconst (v := 1) hx hb dX9_put_122 (by decide) ?_
          refine lv_isub hx hb dX9_put_123 ?_
          refine lv_imul hx hb dX9_put_124 ?_
          refine lv_iadd hx hb dX9_put_125 ?_
          refine lv_iload_n hx hb dX9_put_126 rfl (lv_at hl 2 rfl) ?_
          refine lv_iload_n hx hb dX9_put_127 rfl (lv_at hl 3 rfl) ?_
          have p_391 : 0 ≤ (((1800 * x) + (6 * (k - 1)))).toInt := by
            have k_392 : (0 : Int32).toInt = 0 := by decide
            have q_393 := i_nle c_1
            try have hq7 := hct x.toNatClampNeg (cl_lt (by omega) (by omega))
            have k_394 : (1800 : Int32).toInt = 1800 := by decide
            have t_395 : ((1800 * x)).toInt = 1800 * (x).toInt := by
              have z := ti_mul (a := 1800) (b := x) (by rw [show (1800 : Int32).toInt = 1800 from by decide]; omega) (by rw [show (1800 : Int32).toInt = 1800 from by decide]; omega)
              rw [z, show (1800 : Int32).toInt = 1800 from by decide]
            have k_396 : (6 : Int32).toInt = 6 := by decide
            have k_397 : (1 : Int32).toInt = 1 := by decide
            have t_398 := ti_sub (a := k) (b := 1) (by omega) (by omega)
            have t_399 : ((6 * (k - 1))).toInt = 6 * ((k - 1)).toInt := by
              have z := ti_mul (a := 6) (b := (k - 1)) (by rw [show (6 : Int32).toInt = 6 from by decide]; omega) (by rw [show (6 : Int32).toInt = 6 from by decide]; omega)
              rw [z, show (6 : Int32).toInt = 6 from by decide]
            have t_400 := ti_add (a := (1800 * x)) (b := (6 * (k - 1))) (by omega) (by omega)
            try generalize Int32.toInt ((1800 * x) + (6 * (k - 1))) = z0 at *
            try generalize Int32.toInt (ct x.toNatClampNeg) = z1 at *
            try generalize Int32.toInt (6 * (k - 1)) = z2 at *
            try generalize Int32.toInt (1800 * x) = z3 at *
            try generalize Int32.toInt (k - 1) = z4 at *
            try generalize Int32.toInt (1800 : Int32) = z5 at *
            try generalize Int32.toInt (0 : Int32) = z6 at *
            try generalize Int32.toInt (1 : Int32) = z7 at *
            try generalize Int32.toInt (6 : Int32) = z8 at *
            try generalize Int32.toInt k = z9 at *
            try generalize Int32.toInt x = z10 at *
            first | omega | exact ⟨by omega, by omega⟩
          have p_401 : (((1800 * x) + (6 * (k - 1)))).toInt < 3599 := by
            have k_402 : (0 : Int32).toInt = 0 := by decide
            have q_403 := i_nle c_1
            try have hq7 := hct x.toNatClampNeg (cl_lt (by omega) (by omega))
            have k_404 : (1800 : Int32).toInt = 1800 := by decide
            have t_405 : ((1800 * x)).toInt = 1800 * (x).toInt := by
              have z := ti_mul (a := 1800) (b := x) (by rw [show (1800 : Int32).toInt = 1800 from by decide]; omega) (by rw [show (1800 : Int32).toInt = 1800 from by decide]; omega)
              rw [z, show (1800 : Int32).toInt = 1800 from by decide]
            have k_406 : (6 : Int32).toInt = 6 := by decide
            have k_407 : (1 : Int32).toInt = 1 := by decide
            have t_408 := ti_sub (a := k) (b := 1) (by omega) (by omega)
            have t_409 : ((6 * (k - 1))).toInt = 6 * ((k - 1)).toInt := by
              have z := ti_mul (a := 6) (b := (k - 1)) (by rw [show (6 : Int32).toInt = 6 from by decide]; omega) (by rw [show (6 : Int32).toInt = 6 from by decide]; omega)
              rw [z, show (6 : Int32).toInt = 6 from by decide]
            have t_410 := ti_add (a := (1800 * x)) (b := (6 * (k - 1))) (by omega) (by omega)
            try generalize Int32.toInt ((1800 * x) + (6 * (k - 1))) = z0 at *
            try generalize Int32.toInt (ct x.toNatClampNeg) = z1 at *
            try generalize Int32.toInt (6 * (k - 1)) = z2 at *
            try generalize Int32.toInt (1800 * x) = z3 at *
            try generalize Int32.toInt (k - 1) = z4 at *
            try generalize Int32.toInt (1800 : Int32) = z5 at *
            try generalize Int32.toInt (0 : Int32) = z6 at *
            try generalize Int32.toInt (1 : Int32) = z7 at *
            try generalize Int32.toInt (6 : Int32) = z8 at *
            try generalize Int32.toInt k = z9 at *
            try generalize Int32.toInt x = z10 at *
            first | omega | exact ⟨by omega, by omega⟩
          have hPc := hP.sub (ws' := [(h0, .inr (9, [.int 0, .ref a0, .ref a1, .ref a2, .int dc, .ref a3, .int tl, .ref a4, .int xl, .int fo, .int fa, .ref a5, .int mn, .ref a6, .int ft, .ref a7, .int wl])), (a0, .inl (cI, 3600, .inl rz))]) [0, 1] rfl
          have hDc := hD.sub (ws' := [(h0, .inr (9, [.int 0, .ref a0, .ref a1, .ref a2, .int dc, .ref a3, .int tl, .ref a4, .int xl, .int fo, .int fa, .ref a5, .int mn, .ref a6, .int ft, .ref a7, .int wl])), (a0, .inl (cI, 3600, .inl rz))]) [0, 1] (by decide) rfl
          refine vp_callSi (va_Run.run (va_runV (As := [.int ((1800 * x) + (6 * (k - 1))), .int y1, .int y2]) (rest := []) ⟨hx, hb, hml, hown, hts⟩ (c_X9_isBefore l dC dI cB cC cI cJ H.size h0 a0 a1 a2 a3 a4 a5 a6 a7 0 dc tl xl fo fa mn ft wl rz ((1800 * x) + (6 * (k - 1))) y1 y2 p_391 p_401) (cwV 3 hts gX9_put_X9_isBefore rfl rfl rfl (by decide +kernel) ⟨(Nat.le_of_ble_eq_true rfl), (Nat.le_of_ble_eq_true rfl)⟩) ⟨cP_blind, va_recv hG.1 hPc (ci := 9) (q0 := 0) rfl rfl, cP_pre hPc hG hDc⟩ rfl rfl hl.1 rfl (lv_room (Nat.le_of_ble_eq_true rfl)) dX9_put_128 ⟨Nat.le_of_ble_eq_true rfl, Nat.le_of_ble_eq_true rfl⟩)) (fun r_411 hr_411 => ?_)
          rw [bnd_eq hr_411.symm] at hR
          refine lv_if_eq (tgt := 190) hx hb dX9_put_131 (by decide) (fun c_412 => ?_) (fun c_412 => ?_)
          · rw [if_pos c_412] at hR
            refine lv_iload hx hb dX9_put_190 (lv_at hl 8 rfl) ?_
            refine lv_bipush (v := 6) hx hb dX9_put_192 (by decide) ?_
            refine lv_iload hx hb dX9_put_194 (lv_at hl 9 rfl) ?_
            refine lv_imul hx hb dX9_put_196 ?_
            refine lv_iadd hx hb dX9_put_197 ?_
            refine lv_istore (lv' := [(10, .int ((1800 * x) + (6 * k))), (0, .ref h0), (1, .int x), (2, .int y1), (3, .int y2), (4, .int y3), (5, .int y4), (6, .int y5), (7, .int y6), (8, .int (1800 * x)), (9, .int k)]) hx hb dX9_put_198 hl (by decide) rfl (fun ls hl => ?_)
            refine lv_aload_n hx hb dX9_put_200 rfl (lv_at hl 1 rfl) ?_
            refine va_get (D := (dC, dI)) (ci := 9) (v := .ref a0) (C := RX9) (T := TX9) (N := 17) hx hb hts inc_X9_put_9 hown hG.1 hP 0 rfl rfl 1 (by decide) (hts (.fieldLink RX9 13 "MappingDeskModel" "rows" "[I") (by decide +kernel)) (fun _ h9 => h9) rfl dX9_put_201 ?_
            refine lv_iload hx hb dX9_put_204 (lv_at hl 0 rfl) ?_
            refine lv_iload_n hx hb dX9_put_206 rfl (lv_at hl 3 rfl) ?_
            have b_413 : vp_in ((1800 * x) + (6 * k)) 3600 := by
              have k_414 : (0 : Int32).toInt = 0 := by decide
              have q_415 := i_nle c_1
              have q_416 := i_eq c_412
              try have hq7 := hct x.toNatClampNeg (cl_lt (by omega) (by omega))
              have k_417 : (1800 : Int32).toInt = 1800 := by decide
              have t_418 : ((1800 * x)).toInt = 1800 * (x).toInt := by
                have z := ti_mul (a := 1800) (b := x) (by rw [show (1800 : Int32).toInt = 1800 from by decide]; omega) (by rw [show (1800 : Int32).toInt = 1800 from by decide]; omega)
                rw [z, show (1800 : Int32).toInt = 1800 from by decide]
              have k_419 : (6 : Int32).toInt = 6 := by decide
              have t_420 : ((6 * k)).toInt = 6 * (k).toInt := by
                have z := ti_mul (a := 6) (b := k) (by rw [show (6 : Int32).toInt = 6 from by decide]; omega) (by rw [show (6 : Int32).toInt = 6 from by decide]; omega)
                rw [z, show (6 : Int32).toInt = 6 from by decide]
              have t_421 := ti_add (a := (1800 * x)) (b := (6 * k)) (by omega) (by omega)
              refine vin ?_ ?_
              all_goals (try generalize Int32.toInt ((1800 * x) + (6 * k)) = z0 at *; try generalize Int32.toInt (ct x.toNatClampNeg) = z1 at *; try generalize Int32.toInt (1800 * x) = z2 at *; try generalize Int32.toInt (6 * k) = z3 at *; try generalize Int32.toInt r_411 = z4 at *; try generalize Int32.toInt (1800 : Int32) = z5 at *; try generalize Int32.toInt (0 : Int32) = z6 at *; try generalize Int32.toInt (6 : Int32) = z7 at *; try generalize Int32.toInt k = z8 at *; try generalize Int32.toInt x = z9 at *; omega)
            refine va_iast hx hb hG.1 hP hD hS 1 2 rfl rfl b_413 dX9_put_207 (fun H locs hP hD hS => ?_)
            have hP : va_P (dC, dI) vwCl [(h0, .inr (9, [.int 0, .ref a0, .ref a1, .ref a2, .int dc, .ref a3, .int tl, .ref a4, .int xl, .int fo, .int fa, .ref a5, .int mn, .ref a6, .int ft, .ref a7, .int wl])), (a0, .inl (cI, 3600, .inl (upd rz ((1800 * x) + (6 * k)).toNatClampNeg y1))), (a1, .inl (cI, 2, .inl ct))] H := hP
            have hD : va_D A [(h0, .inr (9, [.int 0, .ref a0, .ref a1, .ref a2, .int dc, .ref a3, .int tl, .ref a4, .int xl, .int fo, .int fa, .ref a5, .int mn, .ref a6, .int ft, .ref a7, .int wl])), (a0, .inl (cI, 3600, .inl (upd rz ((1800 * x) + (6 * k)).toNatClampNeg y1))), (a1, .inl (cI, 2, .inl ct))] := hD
            refine lv_aload_n hx hb dX9_put_208 rfl (lv_at hl 1 rfl) ?_
            refine va_get (D := (dC, dI)) (ci := 9) (v := .ref a0) (C := RX9) (T := TX9) (N := 17) hx hb hts inc_X9_put_9 hown hG.1 hP 0 rfl rfl 1 (by decide) (hts (.fieldLink RX9 13 "MappingDeskModel" "rows" "[I") (by decide +kernel)) (fun _ h9 => h9) rfl dX9_put_209 ?_
            refine lv_iload hx hb dX9_put_212 (lv_at hl 0 rfl) ?_
            refine lv_iconst (v := 1) hx hb dX9_put_214 (by decide) ?_
            refine lv_iadd hx hb dX9_put_215 ?_
            refine lv_iload_n hx hb dX9_put_216 rfl (lv_at hl 4 rfl) ?_
            have b_424 : vp_in (((1800 * x) + (6 * k)) + 1) 3600 := by
              have k_425 : (0 : Int32).toInt = 0 := by decide
              have q_426 := i_nle c_1
              have q_427 := i_eq c_412
              try have hq7 := hct x.toNatClampNeg (cl_lt (by omega) (by omega))
              have k_428 : (1800 : Int32).toInt = 1800 := by decide
              have t_429 : ((1800 * x)).toInt = 1800 * (x).toInt := by
                have z := ti_mul (a := 1800) (b := x) (by rw [show (1800 : Int32).toInt = 1800 from by decide]; omega) (by rw [show (1800 : Int32).toInt = 1800 from by decide]; omega)
                rw [z, show (1800 : Int32).toInt = 1800 from by decide]
              have k_430 : (6 : Int32).toInt = 6 := by decide
              have t_431 : ((6 * k)).toInt = 6 * (k).toInt := by
                have z := ti_mul (a := 6) (b := k) (by rw [show (6 : Int32).toInt = 6 from by decide]; omega) (by rw [show (6 : Int32).toInt = 6 from by decide]; omega)
                rw [z, show (6 : Int32).toInt = 6 from by decide]
              have t_432 := ti_add (a := (1800 * x)) (b := (6 * k)) (by omega) (by omega)
              have k_433 : (1 : Int32).toInt = 1 := by decide
              have t_434 := ti_add (a := ((1800 * x) + (6 * k))) (b := 1) (by omega) (by omega)
              refine vin ?_ ?_
              all_goals (try generalize Int32.toInt (((1800 * x) + (6 * k)) + 1) = z0 at *; try generalize Int32.toInt ((1800 * x) + (6 * k)) = z1 at *; try generalize Int32.toInt (ct x.toNatClampNeg) = z2 at *; try generalize Int32.toInt (1800 * x) = z3 at *; try generalize Int32.toInt (6 * k) = z4 at *; try generalize Int32.toInt r_411 = z5 at *; try generalize Int32.toInt (1800 : Int32) = z6 at *; try generalize Int32.toInt (0 : Int32) = z7 at *; try generalize Int32.toInt (1 : Int32) = z8 at *; try generalize Int32.toInt (6 : Int32) = z9 at *; try generalize Int32.toInt k = z10 at *; try generalize Int32.toInt x = z11 at *; omega)
            refine va_iast hx hb hG.1 hP hD hS 1 2 rfl rfl b_424 dX9_put_217 (fun H locs hP hD hS => ?_)
            have hP : va_P (dC, dI) vwCl [(h0, .inr (9, [.int 0, .ref a0, .ref a1, .ref a2, .int dc, .ref a3, .int tl, .ref a4, .int xl, .int fo, .int fa, .ref a5, .int mn, .ref a6, .int ft, .ref a7, .int wl])), (a0, .inl (cI, 3600, .inl (upd (upd rz ((1800 * x) + (6 * k)).toNatClampNeg y1) (((1800 * x) + (6 * k)) + 1).toNatClampNeg y2))), (a1, .inl (cI, 2, .inl ct))] H := hP
            have hD : va_D A [(h0, .inr (9, [.int 0, .ref a0, .ref a1, .ref a2, .int dc, .ref a3, .int tl, .ref a4, .int xl, .int fo, .int fa, .ref a5, .int mn, .ref a6, .int ft, .ref a7, .int wl])), (a0, .inl (cI, 3600, .inl (upd (upd rz ((1800 * x) + (6 * k)).toNatClampNeg y1) (((1800 * x) + (6 * k)) + 1).toNatClampNeg y2))), (a1, .inl (cI, 2, .inl ct))] := hD
            refine lv_aload_n hx hb dX9_put_218 rfl (lv_at hl 1 rfl) ?_
            refine va_get (D := (dC, dI)) (ci := 9) (v := .ref a0) (C := RX9) (T := TX9) (N := 17) hx hb hts inc_X9_put_9 hown hG.1 hP 0 rfl rfl 1 (by decide) (hts (.fieldLink RX9 13 "MappingDeskModel" "rows" "[I") (by decide +kernel)) (fun _ h9 => h9) rfl dX9_put_219 ?_
            refine lv_iload hx hb dX9_put_222 (lv_at hl 0 rfl) ?_
            refine lv_iconst (v := 2) hx hb dX9_put_224 (by decide) ?_
            refine lv_iadd hx hb dX9_put_225 ?_
            refine lv_iload hx hb dX9_put_226 (lv_at hl 5 rfl) ?_
            refine lv_if_ge (tgt := 235) hx hb dX9_put_228 (by decide) (fun c_437 => ?_) (fun c_437 => ?_)
            · rw [if_pos c_437] at hR
              refine lv_iload hx hb dX9_put_235 (lv_at hl 5 rfl) ?_
              have b_438 : vp_in (((1800 * x) + (6 * k)) + 2) 3600 := by
                have k_439 : (0 : Int32).toInt = 0 := by decide
                have q_440 := i_nle c_1
                have q_441 := i_eq c_412
                have q_442 := i_le c_437
                try have hq7 := hct x.toNatClampNeg (cl_lt (by omega) (by omega))
                have k_443 : (1800 : Int32).toInt = 1800 := by decide
                have t_444 : ((1800 * x)).toInt = 1800 * (x).toInt := by
                  have z := ti_mul (a := 1800) (b := x) (by rw [show (1800 : Int32).toInt = 1800 from by decide]; omega) (by rw [show (1800 : Int32).toInt = 1800 from by decide]; omega)
                  rw [z, show (1800 : Int32).toInt = 1800 from by decide]
                have k_445 : (6 : Int32).toInt = 6 := by decide
                have t_446 : ((6 * k)).toInt = 6 * (k).toInt := by
                  have z := ti_mul (a := 6) (b := k) (by rw [show (6 : Int32).toInt = 6 from by decide]; omega) (by rw [show (6 : Int32).toInt = 6 from by decide]; omega)
                  rw [z, show (6 : Int32).toInt = 6 from by decide]
                have t_447 := ti_add (a := (1800 * x)) (b := (6 * k)) (by omega) (by omega)
                have k_448 : (2 : Int32).toInt = 2 := by decide
                have t_449 := ti_add (a := ((1800 * x) + (6 * k))) (b := 2) (by omega) (by omega)
                refine vin ?_ ?_
                all_goals (try generalize Int32.toInt (((1800 * x) + (6 * k)) + 2) = z0 at *; try generalize Int32.toInt ((1800 * x) + (6 * k)) = z1 at *; try generalize Int32.toInt (ct x.toNatClampNeg) = z2 at *; try generalize Int32.toInt (1800 * x) = z3 at *; try generalize Int32.toInt (6 * k) = z4 at *; try generalize Int32.toInt r_411 = z5 at *; try generalize Int32.toInt (1800 : Int32) = z6 at *; try generalize Int32.toInt y3 = z7 at *; try generalize Int32.toInt (0 : Int32) = z8 at *; try generalize Int32.toInt (2 : Int32) = z9 at *; try generalize Int32.toInt (6 : Int32) = z10 at *; try generalize Int32.toInt k = z11 at *; try generalize Int32.toInt x = z12 at *; omega)
              refine va_iast hx hb hG.1 hP hD hS 1 2 rfl rfl b_438 dX9_put_237 (fun H locs hP hD hS => ?_)
              have hP : va_P (dC, dI) vwCl [(h0, .inr (9, [.int 0, .ref a0, .ref a1, .ref a2, .int dc, .ref a3, .int tl, .ref a4, .int xl, .int fo, .int fa, .ref a5, .int mn, .ref a6, .int ft, .ref a7, .int wl])), (a0, .inl (cI, 3600, .inl (upd (upd (upd rz ((1800 * x) + (6 * k)).toNatClampNeg y1) (((1800 * x) + (6 * k)) + 1).toNatClampNeg y2) (((1800 * x) + (6 * k)) + 2).toNatClampNeg y3))), (a1, .inl (cI, 2, .inl ct))] H := hP
              have hD : va_D A [(h0, .inr (9, [.int 0, .ref a0, .ref a1, .ref a2, .int dc, .ref a3, .int tl, .ref a4, .int xl, .int fo, .int fa, .ref a5, .int mn, .ref a6, .int ft, .ref a7, .int wl])), (a0, .inl (cI, 3600, .inl (upd (upd (upd rz ((1800 * x) + (6 * k)).toNatClampNeg y1) (((1800 * x) + (6 * k)) + 1).toNatClampNeg y2) (((1800 * x) + (6 * k)) + 2).toNatClampNeg y3))), (a1, .inl (cI, 2, .inl ct))] := hD
              refine lv_aload_n hx hb dX9_put_238 rfl (lv_at hl 1 rfl) ?_
              refine va_get (D := (dC, dI)) (ci := 9) (v := .ref a0) (C := RX9) (T := TX9) (N := 17) hx hb hts inc_X9_put_9 hown hG.1 hP 0 rfl rfl 1 (by decide) (hts (.fieldLink RX9 13 "MappingDeskModel" "rows" "[I") (by decide +kernel)) (fun _ h9 => h9) rfl dX9_put_239 ?_
              refine lv_iload hx hb dX9_put_242 (lv_at hl 0 rfl) ?_
              refine lv_iconst (v := 3) hx hb dX9_put_244 (by decide) ?_
              refine lv_iadd hx hb dX9_put_245 ?_
              refine lv_iload hx hb dX9_put_246 (lv_at hl 5 rfl) ?_
              refine lv_if_ge (tgt := 255) hx hb dX9_put_248 (by decide) (fun c_452 => ?_) (fun c_452 => ?_)
              · refine lv_iload hx hb dX9_put_255 (lv_at hl 6 rfl) ?_
                have b_453 : vp_in (((1800 * x) + (6 * k)) + 3) 3600 := by
                  have k_454 : (0 : Int32).toInt = 0 := by decide
                  have q_455 := i_nle c_1
                  have q_456 := i_eq c_412
                  have q_457 := i_le c_437
                  have q_458 := i_le c_452
                  try have hq7 := hct x.toNatClampNeg (cl_lt (by omega) (by omega))
                  have k_459 : (1800 : Int32).toInt = 1800 := by decide
                  have t_460 : ((1800 * x)).toInt = 1800 * (x).toInt := by
                    have z := ti_mul (a := 1800) (b := x) (by rw [show (1800 : Int32).toInt = 1800 from by decide]; omega) (by rw [show (1800 : Int32).toInt = 1800 from by decide]; omega)
                    rw [z, show (1800 : Int32).toInt = 1800 from by decide]
                  have k_461 : (6 : Int32).toInt = 6 := by decide
                  have t_462 : ((6 * k)).toInt = 6 * (k).toInt := by
                    have z := ti_mul (a := 6) (b := k) (by rw [show (6 : Int32).toInt = 6 from by decide]; omega) (by rw [show (6 : Int32).toInt = 6 from by decide]; omega)
                    rw [z, show (6 : Int32).toInt = 6 from by decide]
                  have t_463 := ti_add (a := (1800 * x)) (b := (6 * k)) (by omega) (by omega)
                  have k_464 : (3 : Int32).toInt = 3 := by decide
                  have t_465 := ti_add (a := ((1800 * x) + (6 * k))) (b := 3) (by omega) (by omega)
                  refine vin ?_ ?_
                  all_goals (try generalize Int32.toInt (((1800 * x) + (6 * k)) + 3) = z0 at *; try generalize Int32.toInt ((1800 * x) + (6 * k)) = z1 at *; try generalize Int32.toInt (ct x.toNatClampNeg) = z2 at *; try generalize Int32.toInt (1800 * x) = z3 at *; try generalize Int32.toInt (6 * k) = z4 at *; try generalize Int32.toInt r_411 = z5 at *; try generalize Int32.toInt (1800 : Int32) = z6 at *; try generalize Int32.toInt y3 = z7 at *; try generalize Int32.toInt (0 : Int32) = z8 at *; try generalize Int32.toInt (3 : Int32) = z9 at *; try generalize Int32.toInt (6 : Int32) = z10 at *; try generalize Int32.toInt k = z11 at *; try generalize Int32.toInt x = z12 at *; omega)
                refine va_iast hx hb hG.1 hP hD hS 1 2 rfl rfl b_453 dX9_put_257 (fun H locs hP hD hS => ?_)
                have hP : va_P (dC, dI) vwCl [(h0, .inr (9, [.int 0, .ref a0, .ref a1, .ref a2, .int dc, .ref a3, .int tl, .ref a4, .int xl, .int fo, .int fa, .ref a5, .int mn, .ref a6, .int ft, .ref a7, .int wl])), (a0, .inl (cI, 3600, .inl (upd (upd (upd (upd rz ((1800 * x) + (6 * k)).toNatClampNeg y1) (((1800 * x) + (6 * k)) + 1).toNatClampNeg y2) (((1800 * x) + (6 * k)) + 2).toNatClampNeg y3) (((1800 * x) + (6 * k)) + 3).toNatClampNeg y4))), (a1, .inl (cI, 2, .inl ct))] H := hP
                have hD : va_D A [(h0, .inr (9, [.int 0, .ref a0, .ref a1, .ref a2, .int dc, .ref a3, .int tl, .ref a4, .int xl, .int fo, .int fa, .ref a5, .int mn, .ref a6, .int ft, .ref a7, .int wl])), (a0, .inl (cI, 3600, .inl (upd (upd (upd (upd rz ((1800 * x) + (6 * k)).toNatClampNeg y1) (((1800 * x) + (6 * k)) + 1).toNatClampNeg y2) (((1800 * x) + (6 * k)) + 2).toNatClampNeg y3) (((1800 * x) + (6 * k)) + 3).toNatClampNeg y4))), (a1, .inl (cI, 2, .inl ct))] := hD
                refine lv_aload_n hx hb dX9_put_258 rfl (lv_at hl 1 rfl) ?_
                refine va_get (D := (dC, dI)) (ci := 9) (v := .ref a0) (C := RX9) (T := TX9) (N := 17) hx hb hts inc_X9_put_9 hown hG.1 hP 0 rfl rfl 1 (by decide) (hts (.fieldLink RX9 13 "MappingDeskModel" "rows" "[I") (by decide +kernel)) (fun _ h9 => h9) rfl dX9_put_259 ?_
                refine lv_iload hx hb dX9_put_262 (lv_at hl 0 rfl) ?_
                refine lv_iconst (v := 4) hx hb dX9_put_264 (by decide) ?_
                refine lv_iadd hx hb dX9_put_265 ?_
                refine lv_iload hx hb dX9_put_266 (lv_at hl 5 rfl) ?_
                refine lv_if_ge (tgt := 275) hx hb dX9_put_268 (by decide) (fun c_468 => ?_) (fun c_468 => ?_)
                · refine lv_iload hx hb dX9_put_275 (lv_at hl 7 rfl) ?_
                  have b_469 : vp_in (((1800 * x) + (6 * k)) + 4) 3600 := by
                    have k_470 : (0 : Int32).toInt = 0 := by decide
                    have q_471 := i_nle c_1
                    have q_472 := i_eq c_412
                    have q_473 := i_le c_437
                    have q_474 := i_le c_452
                    have q_475 := i_le c_468
                    try have hq7 := hct x.toNatClampNeg (cl_lt (by omega) (by omega))
                    have k_476 : (1800 : Int32).toInt = 1800 := by decide
                    have t_477 : ((1800 * x)).toInt = 1800 * (x).toInt := by
                      have z := ti_mul (a := 1800) (b := x) (by rw [show (1800 : Int32).toInt = 1800 from by decide]; omega) (by rw [show (1800 : Int32).toInt = 1800 from by decide]; omega)
                      rw [z, show (1800 : Int32).toInt = 1800 from by decide]
                    have k_478 : (6 : Int32).toInt = 6 := by decide
                    have t_479 : ((6 * k)).toInt = 6 * (k).toInt := by
                      have z := ti_mul (a := 6) (b := k) (by rw [show (6 : Int32).toInt = 6 from by decide]; omega) (by rw [show (6 : Int32).toInt = 6 from by decide]; omega)
                      rw [z, show (6 : Int32).toInt = 6 from by decide]
                    have t_480 := ti_add (a := (1800 * x)) (b := (6 * k)) (by omega) (by omega)
                    have k_481 : (4 : Int32).toInt = 4 := by decide
                    have t_482 := ti_add (a := ((1800 * x) + (6 * k))) (b := 4) (by omega) (by omega)
                    refine vin ?_ ?_
                    all_goals (try generalize Int32.toInt (((1800 * x) + (6 * k)) + 4) = z0 at *; try generalize Int32.toInt ((1800 * x) + (6 * k)) = z1 at *; try generalize Int32.toInt (ct x.toNatClampNeg) = z2 at *; try generalize Int32.toInt (1800 * x) = z3 at *; try generalize Int32.toInt (6 * k) = z4 at *; try generalize Int32.toInt r_411 = z5 at *; try generalize Int32.toInt (1800 : Int32) = z6 at *; try generalize Int32.toInt y3 = z7 at *; try generalize Int32.toInt (0 : Int32) = z8 at *; try generalize Int32.toInt (4 : Int32) = z9 at *; try generalize Int32.toInt (6 : Int32) = z10 at *; try generalize Int32.toInt k = z11 at *; try generalize Int32.toInt x = z12 at *; omega)
                  refine va_iast hx hb hG.1 hP hD hS 1 2 rfl rfl b_469 dX9_put_277 (fun H locs hP hD hS => ?_)
                  have hP : va_P (dC, dI) vwCl [(h0, .inr (9, [.int 0, .ref a0, .ref a1, .ref a2, .int dc, .ref a3, .int tl, .ref a4, .int xl, .int fo, .int fa, .ref a5, .int mn, .ref a6, .int ft, .ref a7, .int wl])), (a0, .inl (cI, 3600, .inl (upd (upd (upd (upd (upd rz ((1800 * x) + (6 * k)).toNatClampNeg y1) (((1800 * x) + (6 * k)) + 1).toNatClampNeg y2) (((1800 * x) + (6 * k)) + 2).toNatClampNeg y3) (((1800 * x) + (6 * k)) + 3).toNatClampNeg y4) (((1800 * x) + (6 * k)) + 4).toNatClampNeg y5))), (a1, .inl (cI, 2, .inl ct))] H := hP
                  have hD : va_D A [(h0, .inr (9, [.int 0, .ref a0, .ref a1, .ref a2, .int dc, .ref a3, .int tl, .ref a4, .int xl, .int fo, .int fa, .ref a5, .int mn, .ref a6, .int ft, .ref a7, .int wl])), (a0, .inl (cI, 3600, .inl (upd (upd (upd (upd (upd rz ((1800 * x) + (6 * k)).toNatClampNeg y1) (((1800 * x) + (6 * k)) + 1).toNatClampNeg y2) (((1800 * x) + (6 * k)) + 2).toNatClampNeg y3) (((1800 * x) + (6 * k)) + 3).toNatClampNeg y4) (((1800 * x) + (6 * k)) + 4).toNatClampNeg y5))), (a1, .inl (cI, 2, .inl ct))] := hD
                  refine lv_aload_n hx hb dX9_put_278 rfl (lv_at hl 1 rfl) ?_
                  refine va_get (D := (dC, dI)) (ci := 9) (v := .ref a0) (C := RX9) (T := TX9) (N := 17) hx hb hts inc_X9_put_9 hown hG.1 hP 0 rfl rfl 1 (by decide) (hts (.fieldLink RX9 13 "MappingDeskModel" "rows" "[I") (by decide +kernel)) (fun _ h9 => h9) rfl dX9_put_279 ?_
                  refine lv_iload hx hb dX9_put_282 (lv_at hl 0 rfl) ?_
                  refine lv_iconst (v := 5) hx hb dX9_put_284 (by decide) ?_
                  refine lv_iadd hx hb dX9_put_285 ?_
                  refine lv_iload hx hb dX9_put_286 (lv_at hl 5 rfl) ?_
                  refine lv_if_lt (tgt := 296) hx hb dX9_put_288 (by decide) (fun c_485 => ?_) (fun c_485 => ?_)
                  · rw [if_pos c_485] at hR
                    refine lv_iconst (v := (-1)) hx hb dX9_put_296 (by decide) ?_
                    refine lv_goto (tgt := 302) hx hb dX9_put_297 (by decide) ?_
                    have b_486 : vp_in (((1800 * x) + (6 * k)) + 5) 3600 := by
                      have k_487 : (0 : Int32).toInt = 0 := by decide
                      have q_488 := i_nle c_1
                      have q_489 := i_eq c_412
                      have q_490 := i_le c_437
                      have q_491 := i_le c_452
                      have q_492 := i_le c_468
                      have q_493 := i_lt c_485
                      try have hq7 := hct x.toNatClampNeg (cl_lt (by omega) (by omega))
                      have k_494 : (1800 : Int32).toInt = 1800 := by decide
                      have t_495 : ((1800 * x)).toInt = 1800 * (x).toInt := by
                        have z := ti_mul (a := 1800) (b := x) (by rw [show (1800 : Int32).toInt = 1800 from by decide]; omega) (by rw [show (1800 : Int32).toInt = 1800 from by decide]; omega)
                        rw [z, show (1800 : Int32).toInt = 1800 from by decide]
                      have k_496 : (6 : Int32).toInt = 6 := by decide
                      have t_497 : ((6 * k)).toInt = 6 * (k).toInt := by
                        have z := ti_mul (a := 6) (b := k) (by rw [show (6 : Int32).toInt = 6 from by decide]; omega) (by rw [show (6 : Int32).toInt = 6 from by decide]; omega)
                        rw [z, show (6 : Int32).toInt = 6 from by decide]
                      have t_498 := ti_add (a := (1800 * x)) (b := (6 * k)) (by omega) (by omega)
                      have k_499 : (5 : Int32).toInt = 5 := by decide
                      have t_500 := ti_add (a := ((1800 * x) + (6 * k))) (b := 5) (by omega) (by omega)
                      refine vin ?_ ?_
                      all_goals (try generalize Int32.toInt (((1800 * x) + (6 * k)) + 5) = z0 at *; try generalize Int32.toInt ((1800 * x) + (6 * k)) = z1 at *; try generalize Int32.toInt (ct x.toNatClampNeg) = z2 at *; try generalize Int32.toInt (1800 * x) = z3 at *; try generalize Int32.toInt (6 * k) = z4 at *; try generalize Int32.toInt r_411 = z5 at *; try generalize Int32.toInt (1800 : Int32) = z6 at *; try generalize Int32.toInt y3 = z7 at *; try generalize Int32.toInt (0 : Int32) = z8 at *; try generalize Int32.toInt (5 : Int32) = z9 at *; try generalize Int32.toInt (6 : Int32) = z10 at *; try generalize Int32.toInt k = z11 at *; try generalize Int32.toInt x = z12 at *; omega)
                    refine va_iast hx hb hG.1 hP hD hS 1 2 rfl rfl b_486 dX9_put_302 (fun H locs hP hD hS => ?_)
                    have hP : va_P (dC, dI) vwCl [(h0, .inr (9, [.int 0, .ref a0, .ref a1, .ref a2, .int dc, .ref a3, .int tl, .ref a4, .int xl, .int fo, .int fa, .ref a5, .int mn, .ref a6, .int ft, .ref a7, .int wl])), (a0, .inl (cI, 3600, .inl (upd (upd (upd (upd (upd (upd rz ((1800 * x) + (6 * k)).toNatClampNeg y1) (((1800 * x) + (6 * k)) + 1).toNatClampNeg y2) (((1800 * x) + (6 * k)) + 2).toNatClampNeg y3) (((1800 * x) + (6 * k)) + 3).toNatClampNeg y4) (((1800 * x) + (6 * k)) + 4).toNatClampNeg y5) (((1800 * x) + (6 * k)) + 5).toNatClampNeg (-1)))), (a1, .inl (cI, 2, .inl ct))] H := hP
                    have hD : va_D A [(h0, .inr (9, [.int 0, .ref a0, .ref a1, .ref a2, .int dc, .ref a3, .int tl, .ref a4, .int xl, .int fo, .int fa, .ref a5, .int mn, .ref a6, .int ft, .ref a7, .int wl])), (a0, .inl (cI, 3600, .inl (upd (upd (upd (upd (upd (upd rz ((1800 * x) + (6 * k)).toNatClampNeg y1) (((1800 * x) + (6 * k)) + 1).toNatClampNeg y2) (((1800 * x) + (6 * k)) + 2).toNatClampNeg y3) (((1800 * x) + (6 * k)) + 3).toNatClampNeg y4) (((1800 * x) + (6 * k)) + 4).toNatClampNeg y5) (((1800 * x) + (6 * k)) + 5).toNatClampNeg (-1)))), (a1, .inl (cI, 2, .inl ct))] := hD
                    refine lv_aload_n hx hb dX9_put_303 rfl (lv_at hl 1 rfl) ?_
                    refine va_get (D := (dC, dI)) (ci := 9) (v := .ref a1) (C := RX9) (T := TX9) (N := 17) hx hb hts inc_X9_put_9 hown hG.1 hP 0 rfl rfl 2 (by decide) (hts (.fieldLink RX9 17 "MappingDeskModel" "count" "[I") (by decide +kernel)) (fun _ h9 => h9) rfl dX9_put_304 ?_
                    refine lv_iload_n hx hb dX9_put_307 rfl (lv_at hl 2 rfl) ?_
                    refine lv_dup2_11 hx hb dX9_put_308 rfl rfl ?_
                    have b_503 : vp_in x 2 := by
                      have k_504 : (0 : Int32).toInt = 0 := by decide
                      have q_505 := i_nle c_1
                      have q_506 := i_eq c_412
                      have q_507 := i_le c_437
                      have q_508 := i_le c_452
                      have q_509 := i_le c_468
                      have q_510 := i_lt c_485
                      try have hq7 := hct x.toNatClampNeg (cl_lt (by omega) (by omega))
                      refine vin ?_ ?_
                      all_goals (try generalize Int32.toInt (ct x.toNatClampNeg) = z0 at *; try generalize Int32.toInt r_411 = z1 at *; try generalize Int32.toInt y3 = z2 at *; try generalize Int32.toInt (0 : Int32) = z3 at *; try generalize Int32.toInt k = z4 at *; try generalize Int32.toInt x = z5 at *; omega)
                    refine va_iald hx hb hG.1 hP 2 2 rfl rfl b_503 dX9_put_309 ?_
                    refine lv_iconst (v := 1) hx hb dX9_put_310 (by decide) ?_
                    refine lv_iadd hx hb dX9_put_311 ?_
                    have b_513 : vp_in x 2 := by
                      have k_514 : (0 : Int32).toInt = 0 := by decide
                      have q_515 := i_nle c_1
                      have q_516 := i_eq c_412
                      have q_517 := i_le c_437
                      have q_518 := i_le c_452
                      have q_519 := i_le c_468
                      have q_520 := i_lt c_485
                      try have hq7 := hct x.toNatClampNeg (cl_lt (by omega) (by omega))
                      refine vin ?_ ?_
                      all_goals (try generalize Int32.toInt (ct x.toNatClampNeg) = z0 at *; try generalize Int32.toInt r_411 = z1 at *; try generalize Int32.toInt y3 = z2 at *; try generalize Int32.toInt (0 : Int32) = z3 at *; try generalize Int32.toInt k = z4 at *; try generalize Int32.toInt x = z5 at *; omega)
                    refine va_iast hx hb hG.1 hP hD hS 2 2 rfl rfl b_513 dX9_put_312 (fun H locs hP hD hS => ?_)
                    have hP : va_P (dC, dI) vwCl [(h0, .inr (9, [.int 0, .ref a0, .ref a1, .ref a2, .int dc, .ref a3, .int tl, .ref a4, .int xl, .int fo, .int fa, .ref a5, .int mn, .ref a6, .int ft, .ref a7, .int wl])), (a0, .inl (cI, 3600, .inl (upd (upd (upd (upd (upd (upd rz ((1800 * x) + (6 * k)).toNatClampNeg y1) (((1800 * x) + (6 * k)) + 1).toNatClampNeg y2) (((1800 * x) + (6 * k)) + 2).toNatClampNeg y3) (((1800 * x) + (6 * k)) + 3).toNatClampNeg y4) (((1800 * x) + (6 * k)) + 4).toNatClampNeg y5) (((1800 * x) + (6 * k)) + 5).toNatClampNeg (-1)))), (a1, .inl (cI, 2, .inl (upd ct x.toNatClampNeg ((ct x.toNatClampNeg) + 1))))] H := hP
                    have hD : va_D A [(h0, .inr (9, [.int 0, .ref a0, .ref a1, .ref a2, .int dc, .ref a3, .int tl, .ref a4, .int xl, .int fo, .int fa, .ref a5, .int mn, .ref a6, .int ft, .ref a7, .int wl])), (a0, .inl (cI, 3600, .inl (upd (upd (upd (upd (upd (upd rz ((1800 * x) + (6 * k)).toNatClampNeg y1) (((1800 * x) + (6 * k)) + 1).toNatClampNeg y2) (((1800 * x) + (6 * k)) + 2).toNatClampNeg y3) (((1800 * x) + (6 * k)) + 3).toNatClampNeg y4) (((1800 * x) + (6 * k)) + 4).toNatClampNeg y5) (((1800 * x) + (6 * k)) + 5).toNatClampNeg (-1)))), (a1, .inl (cI, 2, .inl (upd ct x.toNatClampNeg ((ct x.toNatClampNeg) + 1))))] := hD
                    refine lv_aload_n hx hb dX9_put_313 rfl (lv_at hl 1 rfl) ?_
                    refine va_get (D := (dC, dI)) (ci := 9) (v := .ref a1) (C := RX9) (T := TX9) (N := 17) hx hb hts inc_X9_put_9 hown hG.1 hP 0 rfl rfl 2 (by decide) (hts (.fieldLink RX9 17 "MappingDeskModel" "count" "[I") (by decide +kernel)) (fun _ h9 => h9) rfl dX9_put_314 ?_
                    refine lv_iload_n hx hb dX9_put_317 rfl (lv_at hl 2 rfl) ?_
                    have b_523 : vp_in x 2 := by
                      have k_524 : (0 : Int32).toInt = 0 := by decide
                      have q_525 := i_nle c_1
                      have q_526 := i_eq c_412
                      have q_527 := i_le c_437
                      have q_528 := i_le c_452
                      have q_529 := i_le c_468
                      have q_530 := i_lt c_485
                      try have hq7 := hct x.toNatClampNeg (cl_lt (by omega) (by omega))
                      refine vin ?_ ?_
                      all_goals (try generalize Int32.toInt (ct x.toNatClampNeg) = z0 at *; try generalize Int32.toInt r_411 = z1 at *; try generalize Int32.toInt y3 = z2 at *; try generalize Int32.toInt (0 : Int32) = z3 at *; try generalize Int32.toInt k = z4 at *; try generalize Int32.toInt x = z5 at *; omega)
                    refine va_iald hx hb hG.1 hP 2 2 rfl rfl b_523 dX9_put_318 ?_
                    subst hR
                    exact W.iret (v := ((upd ct x.toNatClampNeg ((ct x.toNatClampNeg) + 1)) x.toNatClampNeg)) hx hb hr (fun t ht hW => ⟨⟨((upd ct x.toNatClampNeg ((ct x.toNatClampNeg) + 1)) x.toNatClampNeg), (), rfl, rfl, by rw [ht]; exact hP, hD⟩, hS.F ht⟩) hS.2.2 dX9_put_319
                  · rw [if_neg c_485] at hR
                    refine lv_iload hx hb dX9_put_291 (lv_at hl 8 rfl) ?_
                    refine lv_if_ge (tgt := 300) hx hb dX9_put_293 (by decide) (fun c_533 => ?_) (fun c_533 => ?_)
                    · rw [if_pos c_533] at hR
                      refine lv_iload hx hb dX9_put_300 (lv_at hl 8 rfl) ?_
                      have b_534 : vp_in (((1800 * x) + (6 * k)) + 5) 3600 := by
                        have k_535 : (0 : Int32).toInt = 0 := by decide
                        have q_536 := i_nle c_1
                        have q_537 := i_eq c_412
                        have q_538 := i_le c_437
                        have q_539 := i_le c_452
                        have q_540 := i_le c_468
                        have q_541 := i_nlt c_485
                        have q_542 := i_le c_533
                        try have hq7 := hct x.toNatClampNeg (cl_lt (by omega) (by omega))
                        have k_543 : (1800 : Int32).toInt = 1800 := by decide
                        have t_544 : ((1800 * x)).toInt = 1800 * (x).toInt := by
                          have z := ti_mul (a := 1800) (b := x) (by rw [show (1800 : Int32).toInt = 1800 from by decide]; omega) (by rw [show (1800 : Int32).toInt = 1800 from by decide]; omega)
                          rw [z, show (1800 : Int32).toInt = 1800 from by decide]
                        have k_545 : (6 : Int32).toInt = 6 := by decide
                        have t_546 : ((6 * k)).toInt = 6 * (k).toInt := by
                          have z := ti_mul (a := 6) (b := k) (by rw [show (6 : Int32).toInt = 6 from by decide]; omega) (by rw [show (6 : Int32).toInt = 6 from by decide]; omega)
                          rw [z, show (6 : Int32).toInt = 6 from by decide]
                        have t_547 := ti_add (a := (1800 * x)) (b := (6 * k)) (by omega) (by omega)
                        have k_548 : (5 : Int32).toInt = 5 := by decide
                        have t_549 := ti_add (a := ((1800 * x) + (6 * k))) (b := 5) (by omega) (by omega)
                        refine vin ?_ ?_
                        all_goals (try generalize Int32.toInt (((1800 * x) + (6 * k)) + 5) = z0 at *; try generalize Int32.toInt ((1800 * x) + (6 * k)) = z1 at *; try generalize Int32.toInt (ct x.toNatClampNeg) = z2 at *; try generalize Int32.toInt (1800 * x) = z3 at *; try generalize Int32.toInt (6 * k) = z4 at *; try generalize Int32.toInt r_411 = z5 at *; try generalize Int32.toInt (1800 : Int32) = z6 at *; try generalize Int32.toInt y3 = z7 at *; try generalize Int32.toInt y6 = z8 at *; try generalize Int32.toInt (0 : Int32) = z9 at *; try generalize Int32.toInt (5 : Int32) = z10 at *; try generalize Int32.toInt (6 : Int32) = z11 at *; try generalize Int32.toInt k = z12 at *; try generalize Int32.toInt x = z13 at *; omega)
                      refine va_iast hx hb hG.1 hP hD hS 1 2 rfl rfl b_534 dX9_put_302 (fun H locs hP hD hS => ?_)
                      have hP : va_P (dC, dI) vwCl [(h0, .inr (9, [.int 0, .ref a0, .ref a1, .ref a2, .int dc, .ref a3, .int tl, .ref a4, .int xl, .int fo, .int fa, .ref a5, .int mn, .ref a6, .int ft, .ref a7, .int wl])), (a0, .inl (cI, 3600, .inl (upd (upd (upd (upd (upd (upd rz ((1800 * x) + (6 * k)).toNatClampNeg y1) (((1800 * x) + (6 * k)) + 1).toNatClampNeg y2) (((1800 * x) + (6 * k)) + 2).toNatClampNeg y3) (((1800 * x) + (6 * k)) + 3).toNatClampNeg y4) (((1800 * x) + (6 * k)) + 4).toNatClampNeg y5) (((1800 * x) + (6 * k)) + 5).toNatClampNeg y6))), (a1, .inl (cI, 2, .inl ct))] H := hP
                      have hD : va_D A [(h0, .inr (9, [.int 0, .ref a0, .ref a1, .ref a2, .int dc, .ref a3, .int tl, .ref a4, .int xl, .int fo, .int fa, .ref a5, .int mn, .ref a6, .int ft, .ref a7, .int wl])), (a0, .inl (cI, 3600, .inl (upd (upd (upd (upd (upd (upd rz ((1800 * x) + (6 * k)).toNatClampNeg y1) (((1800 * x) + (6 * k)) + 1).toNatClampNeg y2) (((1800 * x) + (6 * k)) + 2).toNatClampNeg y3) (((1800 * x) + (6 * k)) + 3).toNatClampNeg y4) (((1800 * x) + (6 * k)) + 4).toNatClampNeg y5) (((1800 * x) + (6 * k)) + 5).toNatClampNeg y6))), (a1, .inl (cI, 2, .inl ct))] := hD
                      refine lv_aload_n hx hb dX9_put_303 rfl (lv_at hl 1 rfl) ?_
                      refine va_get (D := (dC, dI)) (ci := 9) (v := .ref a1) (C := RX9) (T := TX9) (N := 17) hx hb hts inc_X9_put_9 hown hG.1 hP 0 rfl rfl 2 (by decide) (hts (.fieldLink RX9 17 "MappingDeskModel" "count" "[I") (by decide +kernel)) (fun _ h9 => h9) rfl dX9_put_304 ?_
                      refine lv_iload_n hx hb dX9_put_307 rfl (lv_at hl 2 rfl) ?_
                      refine lv_dup2_11 hx hb dX9_put_308 rfl rfl ?_
                      have b_552 : vp_in x 2 := by
                        have k_553 : (0 : Int32).toInt = 0 := by decide
                        have q_554 := i_nle c_1
                        have q_555 := i_eq c_412
                        have q_556 := i_le c_437
                        have q_557 := i_le c_452
                        have q_558 := i_le c_468
                        have q_559 := i_nlt c_485
                        have q_560 := i_le c_533
                        try have hq7 := hct x.toNatClampNeg (cl_lt (by omega) (by omega))
                        refine vin ?_ ?_
                        all_goals (try generalize Int32.toInt (ct x.toNatClampNeg) = z0 at *; try generalize Int32.toInt r_411 = z1 at *; try generalize Int32.toInt y3 = z2 at *; try generalize Int32.toInt y6 = z3 at *; try generalize Int32.toInt (0 : Int32) = z4 at *; try generalize Int32.toInt k = z5 at *; try generalize Int32.toInt x = z6 at *; omega)
                      refine va_iald hx hb hG.1 hP 2 2 rfl rfl b_552 dX9_put_309 ?_
                      refine lv_iconst (v := 1) hx hb dX9_put_310 (by decide) ?_
                      refine lv_iadd hx hb dX9_put_311 ?_
                      have b_563 : vp_in x 2 := by
                        have k_564 : (0 : Int32).toInt = 0 := by decide
                        have q_565 := i_nle c_1
                        have q_566 := i_eq c_412
                        have q_567 := i_le c_437
                        have q_568 := i_le c_452
                        have q_569 := i_le c_468
                        have q_570 := i_nlt c_485
                        have q_571 := i_le c_533
                        try have hq7 := hct x.toNatClampNeg (cl_lt (by omega) (by omega))
                        refine vin ?_ ?_
                        all_goals (try generalize Int32.toInt (ct x.toNatClampNeg) = z0 at *; try generalize Int32.toInt r_411 = z1 at *; try generalize Int32.toInt y3 = z2 at *; try generalize Int32.toInt y6 = z3 at *; try generalize Int32.toInt (0 : Int32) = z4 at *; try generalize Int32.toInt k = z5 at *; try generalize Int32.toInt x = z6 at *; omega)
                      refine va_iast hx hb hG.1 hP hD hS 2 2 rfl rfl b_563 dX9_put_312 (fun H locs hP hD hS => ?_)
                      have hP : va_P (dC, dI) vwCl [(h0, .inr (9, [.int 0, .ref a0, .ref a1, .ref a2, .int dc, .ref a3, .int tl, .ref a4, .int xl, .int fo, .int fa, .ref a5, .int mn, .ref a6, .int ft, .ref a7, .int wl])), (a0, .inl (cI, 3600, .inl (upd (upd (upd (upd (upd (upd rz ((1800 * x) + (6 * k)).toNatClampNeg y1) (((1800 * x) + (6 * k)) + 1).toNatClampNeg y2) (((1800 * x) + (6 * k)) + 2).toNatClampNeg y3) (((1800 * x) + (6 * k)) + 3).toNatClampNeg y4) (((1800 * x) + (6 * k)) + 4).toNatClampNeg y5) (((1800 * x) + (6 * k)) + 5).toNatClampNeg y6))), (a1, .inl (cI, 2, .inl (upd ct x.toNatClampNeg ((ct x.toNatClampNeg) + 1))))] H := hP
                      have hD : va_D A [(h0, .inr (9, [.int 0, .ref a0, .ref a1, .ref a2, .int dc, .ref a3, .int tl, .ref a4, .int xl, .int fo, .int fa, .ref a5, .int mn, .ref a6, .int ft, .ref a7, .int wl])), (a0, .inl (cI, 3600, .inl (upd (upd (upd (upd (upd (upd rz ((1800 * x) + (6 * k)).toNatClampNeg y1) (((1800 * x) + (6 * k)) + 1).toNatClampNeg y2) (((1800 * x) + (6 * k)) + 2).toNatClampNeg y3) (((1800 * x) + (6 * k)) + 3).toNatClampNeg y4) (((1800 * x) + (6 * k)) + 4).toNatClampNeg y5) (((1800 * x) + (6 * k)) + 5).toNatClampNeg y6))), (a1, .inl (cI, 2, .inl (upd ct x.toNatClampNeg ((ct x.toNatClampNeg) + 1))))] := hD
                      refine lv_aload_n hx hb dX9_put_313 rfl (lv_at hl 1 rfl) ?_
                      refine va_get (D := (dC, dI)) (ci := 9) (v := .ref a1) (C := RX9) (T := TX9) (N := 17) hx hb hts inc_X9_put_9 hown hG.1 hP 0 rfl rfl 2 (by decide) (hts (.fieldLink RX9 17 "MappingDeskModel" "count" "[I") (by decide +kernel)) (fun _ h9 => h9) rfl dX9_put_314 ?_
                      refine lv_iload_n hx hb dX9_put_317 rfl (lv_at hl 2 rfl) ?_
                      have b_574 : vp_in x 2 := by
                        have k_575 : (0 : Int32).toInt = 0 := by decide
                        have q_576 := i_nle c_1
                        have q_577 := i_eq c_412
                        have q_578 := i_le c_437
                        have q_579 := i_le c_452
                        have q_580 := i_le c_468
                        have q_581 := i_nlt c_485
                        have q_582 := i_le c_533
                        try have hq7 := hct x.toNatClampNeg (cl_lt (by omega) (by omega))
                        refine vin ?_ ?_
                        all_goals (try generalize Int32.toInt (ct x.toNatClampNeg) = z0 at *; try generalize Int32.toInt r_411 = z1 at *; try generalize Int32.toInt y3 = z2 at *; try generalize Int32.toInt y6 = z3 at *; try generalize Int32.toInt (0 : Int32) = z4 at *; try generalize Int32.toInt k = z5 at *; try generalize Int32.toInt x = z6 at *; omega)
                      refine va_iald hx hb hG.1 hP 2 2 rfl rfl b_574 dX9_put_318 ?_
                      subst hR
                      exact W.iret (v := ((upd ct x.toNatClampNeg ((ct x.toNatClampNeg) + 1)) x.toNatClampNeg)) hx hb hr (fun t ht hW => ⟨⟨((upd ct x.toNatClampNeg ((ct x.toNatClampNeg) + 1)) x.toNatClampNeg), (), rfl, rfl, by rw [ht]; exact hP, hD⟩, hS.F ht⟩) hS.2.2 dX9_put_319
                    · rw [if_neg c_533] at hR
                      refine lv_iconst (v := (-1)) hx hb dX9_put_296 (by decide) ?_
                      refine lv_goto (tgt := 302) hx hb dX9_put_297 (by decide) ?_
                      have b_585 : vp_in (((1800 * x) + (6 * k)) + 5) 3600 := by
                        have k_586 : (0 : Int32).toInt = 0 := by decide
                        have q_587 := i_nle c_1
                        have q_588 := i_eq c_412
                        have q_589 := i_le c_437
                        have q_590 := i_le c_452
                        have q_591 := i_le c_468
                        have q_592 := i_nlt c_485
                        have q_593 := i_nle c_533
                        try have hq7 := hct x.toNatClampNeg (cl_lt (by omega) (by omega))
                        have k_594 : (1800 : Int32).toInt = 1800 := by decide
                        have t_595 : ((1800 * x)).toInt = 1800 * (x).toInt := by
                          have z := ti_mul (a := 1800) (b := x) (by rw [show (1800 : Int32).toInt = 1800 from by decide]; omega) (by rw [show (1800 : Int32).toInt = 1800 from by decide]; omega)
                          rw [z, show (1800 : Int32).toInt = 1800 from by decide]
                        have k_596 : (6 : Int32).toInt = 6 := by decide
                        have t_597 : ((6 * k)).toInt = 6 * (k).toInt := by
                          have z := ti_mul (a := 6) (b := k) (by rw [show (6 : Int32).toInt = 6 from by decide]; omega) (by rw [show (6 : Int32).toInt = 6 from by decide]; omega)
                          rw [z, show (6 : Int32).toInt = 6 from by decide]
                        have t_598 := ti_add (a := (1800 * x)) (b := (6 * k)) (by omega) (by omega)
                        have k_599 : (5 : Int32).toInt = 5 := by decide
                        have t_600 := ti_add (a := ((1800 * x) + (6 * k))) (b := 5) (by omega) (by omega)
                        refine vin ?_ ?_
                        all_goals (try generalize Int32.toInt (((1800 * x) + (6 * k)) + 5) = z0 at *; try generalize Int32.toInt ((1800 * x) + (6 * k)) = z1 at *; try generalize Int32.toInt (ct x.toNatClampNeg) = z2 at *; try generalize Int32.toInt (1800 * x) = z3 at *; try generalize Int32.toInt (6 * k) = z4 at *; try generalize Int32.toInt r_411 = z5 at *; try generalize Int32.toInt (1800 : Int32) = z6 at *; try generalize Int32.toInt y3 = z7 at *; try generalize Int32.toInt y6 = z8 at *; try generalize Int32.toInt (0 : Int32) = z9 at *; try generalize Int32.toInt (5 : Int32) = z10 at *; try generalize Int32.toInt (6 : Int32) = z11 at *; try generalize Int32.toInt k = z12 at *; try generalize Int32.toInt x = z13 at *; omega)
                      refine va_iast hx hb hG.1 hP hD hS 1 2 rfl rfl b_585 dX9_put_302 (fun H locs hP hD hS => ?_)
                      have hP : va_P (dC, dI) vwCl [(h0, .inr (9, [.int 0, .ref a0, .ref a1, .ref a2, .int dc, .ref a3, .int tl, .ref a4, .int xl, .int fo, .int fa, .ref a5, .int mn, .ref a6, .int ft, .ref a7, .int wl])), (a0, .inl (cI, 3600, .inl (upd (upd (upd (upd (upd (upd rz ((1800 * x) + (6 * k)).toNatClampNeg y1) (((1800 * x) + (6 * k)) + 1).toNatClampNeg y2) (((1800 * x) + (6 * k)) + 2).toNatClampNeg y3) (((1800 * x) + (6 * k)) + 3).toNatClampNeg y4) (((1800 * x) + (6 * k)) + 4).toNatClampNeg y5) (((1800 * x) + (6 * k)) + 5).toNatClampNeg (-1)))), (a1, .inl (cI, 2, .inl ct))] H := hP
                      have hD : va_D A [(h0, .inr (9, [.int 0, .ref a0, .ref a1, .ref a2, .int dc, .ref a3, .int tl, .ref a4, .int xl, .int fo, .int fa, .ref a5, .int mn, .ref a6, .int ft, .ref a7, .int wl])), (a0, .inl (cI, 3600, .inl (upd (upd (upd (upd (upd (upd rz ((1800 * x) + (6 * k)).toNatClampNeg y1) (((1800 * x) + (6 * k)) + 1).toNatClampNeg y2) (((1800 * x) + (6 * k)) + 2).toNatClampNeg y3) (((1800 * x) + (6 * k)) + 3).toNatClampNeg y4) (((1800 * x) + (6 * k)) + 4).toNatClampNeg y5) (((1800 * x) + (6 * k)) + 5).toNatClampNeg (-1)))), (a1, .inl (cI, 2, .inl ct))] := hD
                      refine lv_aload_n hx hb dX9_put_303 rfl (lv_at hl 1 rfl) ?_
                      refine va_get (D := (dC, dI)) (ci := 9) (v := .ref a1) (C := RX9) (T := TX9) (N := 17) hx hb hts inc_X9_put_9 hown hG.1 hP 0 rfl rfl 2 (by decide) (hts (.fieldLink RX9 17 "MappingDeskModel" "count" "[I") (by decide +kernel)) (fun _ h9 => h9) rfl dX9_put_304 ?_
                      refine lv_iload_n hx hb dX9_put_307 rfl (lv_at hl 2 rfl) ?_
                      refine lv_dup2_11 hx hb dX9_put_308 rfl rfl ?_
                      have b_603 : vp_in x 2 := by
                        have k_604 : (0 : Int32).toInt = 0 := by decide
                        have q_605 := i_nle c_1
                        have q_606 := i_eq c_412
                        have q_607 := i_le c_437
                        have q_608 := i_le c_452
                        have q_609 := i_le c_468
                        have q_610 := i_nlt c_485
                        have q_611 := i_nle c_533
                        try have hq7 := hct x.toNatClampNeg (cl_lt (by omega) (by omega))
                        refine vin ?_ ?_
                        all_goals (try generalize Int32.toInt (ct x.toNatClampNeg) = z0 at *; try generalize Int32.toInt r_411 = z1 at *; try generalize Int32.toInt y3 = z2 at *; try generalize Int32.toInt y6 = z3 at *; try generalize Int32.toInt (0 : Int32) = z4 at *; try generalize Int32.toInt k = z5 at *; try generalize Int32.toInt x = z6 at *; omega)
                      refine va_iald hx hb hG.1 hP 2 2 rfl rfl b_603 dX9_put_309 ?_
                      refine lv_iconst (v := 1) hx hb dX9_put_310 (by decide) ?_
                      refine lv_iadd hx hb dX9_put_311 ?_
                      have b_614 : vp_in x 2 := by
                        have k_615 : (0 : Int32).toInt = 0 := by decide
                        have q_616 := i_nle c_1
                        have q_617 := i_eq c_412
                        have q_618 := i_le c_437
                        have q_619 := i_le c_452
                        have q_620 := i_le c_468
                        have q_621 := i_nlt c_485
                        have q_622 := i_nle c_533
                        try have hq7 := hct x.toNatClampNeg (cl_lt (by omega) (by omega))
                        refine vin ?_ ?_
                        all_goals (try generalize Int32.toInt (ct x.toNatClampNeg) = z0 at *; try generalize Int32.toInt r_411 = z1 at *; try generalize Int32.toInt y3 = z2 at *; try generalize Int32.toInt y6 = z3 at *; try generalize Int32.toInt (0 : Int32) = z4 at *; try generalize Int32.toInt k = z5 at *; try generalize Int32.toInt x = z6 at *; omega)
                      refine va_iast hx hb hG.1 hP hD hS 2 2 rfl rfl b_614 dX9_put_312 (fun H locs hP hD hS => ?_)
                      have hP : va_P (dC, dI) vwCl [(h0, .inr (9, [.int 0, .ref a0, .ref a1, .ref a2, .int dc, .ref a3, .int tl, .ref a4, .int xl, .int fo, .int fa, .ref a5, .int mn, .ref a6, .int ft, .ref a7, .int wl])), (a0, .inl (cI, 3600, .inl (upd (upd (upd (upd (upd (upd rz ((1800 * x) + (6 * k)).toNatClampNeg y1) (((1800 * x) + (6 * k)) + 1).toNatClampNeg y2) (((1800 * x) + (6 * k)) + 2).toNatClampNeg y3) (((1800 * x) + (6 * k)) + 3).toNatClampNeg y4) (((1800 * x) + (6 * k)) + 4).toNatClampNeg y5) (((1800 * x) + (6 * k)) + 5).toNatClampNeg (-1)))), (a1, .inl (cI, 2, .inl (upd ct x.toNatClampNeg ((ct x.toNatClampNeg) + 1))))] H := hP
                      have hD : va_D A [(h0, .inr (9, [.int 0, .ref a0, .ref a1, .ref a2, .int dc, .ref a3, .int tl, .ref a4, .int xl, .int fo, .int fa, .ref a5, .int mn, .ref a6, .int ft, .ref a7, .int wl])), (a0, .inl (cI, 3600, .inl (upd (upd (upd (upd (upd (upd rz ((1800 * x) + (6 * k)).toNatClampNeg y1) (((1800 * x) + (6 * k)) + 1).toNatClampNeg y2) (((1800 * x) + (6 * k)) + 2).toNatClampNeg y3) (((1800 * x) + (6 * k)) + 3).toNatClampNeg y4) (((1800 * x) + (6 * k)) + 4).toNatClampNeg y5) (((1800 * x) + (6 * k)) + 5).toNatClampNeg (-1)))), (a1, .inl (cI, 2, .inl (upd ct x.toNatClampNeg ((ct x.toNatClampNeg) + 1))))] := hD
                      refine lv_aload_n hx hb dX9_put_313 rfl (lv_at hl 1 rfl) ?_
                      refine va_get (D := (dC, dI)) (ci := 9) (v := .ref a1) (C := RX9) (T := TX9) (N := 17) hx hb hts inc_X9_put_9 hown hG.1 hP 0 rfl rfl 2 (by decide) (hts (.fieldLink RX9 17 "MappingDeskModel" "count" "[I") (by decide +kernel)) (fun _ h9 => h9) rfl dX9_put_314 ?_
                      refine lv_iload_n hx hb dX9_put_317 rfl (lv_at hl 2 rfl) ?_
                      have b_625 : vp_in x 2 := by
                        have k_626 : (0 : Int32).toInt = 0 := by decide
                        have q_627 := i_nle c_1
                        have q_628 := i_eq c_412
                        have q_629 := i_le c_437
                        have q_630 := i_le c_452
                        have q_631 := i_le c_468
                        have q_632 := i_nlt c_485
                        have q_633 := i_nle c_533
                        try have hq7 := hct x.toNatClampNeg (cl_lt (by omega) (by omega))
                        refine vin ?_ ?_
                        all_goals (try generalize Int32.toInt (ct x.toNatClampNeg) = z0 at *; try generalize Int32.toInt r_411 = z1 at *; try generalize Int32.toInt y3 = z2 at *; try generalize Int32.toInt y6 = z3 at *; try generalize Int32.toInt (0 : Int32) = z4 at *; try generalize Int32.toInt k = z5 at *; try generalize Int32.toInt x = z6 at *; omega)
                      refine va_iald hx hb hG.1 hP 2 2 rfl rfl b_625 dX9_put_318 ?_
                      subst hR
                      exact W.iret (v := ((upd ct x.toNatClampNeg ((ct x.toNatClampNeg) + 1)) x.toNatClampNeg)) hx hb hr (fun t ht hW => ⟨⟨((upd ct x.toNatClampNeg ((ct x.toNatClampNeg) + 1)) x.toNatClampNeg), (), rfl, rfl, by rw [ht]; exact hP, hD⟩, hS.F ht⟩) hS.2.2 dX9_put_319
                · exact absurd c_452 c_468
              · exact absurd c_437 c_452
            · rw [if_neg c_437] at hR
              refine lv_iconst (v := (-1)) hx hb dX9_put_231 (by decide) ?_
              refine lv_goto (tgt := 237) hx hb dX9_put_232 (by decide) ?_
              have b_636 : vp_in (((1800 * x) + (6 * k)) + 2) 3600 := by
                have k_637 : (0 : Int32).toInt = 0 := by decide
                have q_638 := i_nle c_1
                have q_639 := i_eq c_412
                have q_640 := i_nle c_437
                try have hq7 := hct x.toNatClampNeg (cl_lt (by omega) (by omega))
                have k_641 : (1800 : Int32).toInt = 1800 := by decide
                have t_642 : ((1800 * x)).toInt = 1800 * (x).toInt := by
                  have z := ti_mul (a := 1800) (b := x) (by rw [show (1800 : Int32).toInt = 1800 from by decide]; omega) (by rw [show (1800 : Int32).toInt = 1800 from by decide]; omega)
                  rw [z, show (1800 : Int32).toInt = 1800 from by decide]
                have k_643 : (6 : Int32).toInt = 6 := by decide
                have t_644 : ((6 * k)).toInt = 6 * (k).toInt := by
                  have z := ti_mul (a := 6) (b := k) (by rw [show (6 : Int32).toInt = 6 from by decide]; omega) (by rw [show (6 : Int32).toInt = 6 from by decide]; omega)
                  rw [z, show (6 : Int32).toInt = 6 from by decide]
                have t_645 := ti_add (a := (1800 * x)) (b := (6 * k)) (by omega) (by omega)
                have k_646 : (2 : Int32).toInt = 2 := by decide
                have t_647 := ti_add (a := ((1800 * x) + (6 * k))) (b := 2) (by omega) (by omega)
                refine vin ?_ ?_
                all_goals (try generalize Int32.toInt (((1800 * x) + (6 * k)) + 2) = z0 at *; try generalize Int32.toInt ((1800 * x) + (6 * k)) = z1 at *; try generalize Int32.toInt (ct x.toNatClampNeg) = z2 at *; try generalize Int32.toInt (1800 * x) = z3 at *; try generalize Int32.toInt (6 * k) = z4 at *; try generalize Int32.toInt r_411 = z5 at *; try generalize Int32.toInt (1800 : Int32) = z6 at *; try generalize Int32.toInt y3 = z7 at *; try generalize Int32.toInt (0 : Int32) = z8 at *; try generalize Int32.toInt (2 : Int32) = z9 at *; try generalize Int32.toInt (6 : Int32) = z10 at *; try generalize Int32.toInt k = z11 at *; try generalize Int32.toInt x = z12 at *; omega)
              refine va_iast hx hb hG.1 hP hD hS 1 2 rfl rfl b_636 dX9_put_237 (fun H locs hP hD hS => ?_)
              have hP : va_P (dC, dI) vwCl [(h0, .inr (9, [.int 0, .ref a0, .ref a1, .ref a2, .int dc, .ref a3, .int tl, .ref a4, .int xl, .int fo, .int fa, .ref a5, .int mn, .ref a6, .int ft, .ref a7, .int wl])), (a0, .inl (cI, 3600, .inl (upd (upd (upd rz ((1800 * x) + (6 * k)).toNatClampNeg y1) (((1800 * x) + (6 * k)) + 1).toNatClampNeg y2) (((1800 * x) + (6 * k)) + 2).toNatClampNeg (-1)))), (a1, .inl (cI, 2, .inl ct))] H := hP
              have hD : va_D A [(h0, .inr (9, [.int 0, .ref a0, .ref a1, .ref a2, .int dc, .ref a3, .int tl, .ref a4, .int xl, .int fo, .int fa, .ref a5, .int mn, .ref a6, .int ft, .ref a7, .int wl])), (a0, .inl (cI, 3600, .inl (upd (upd (upd rz ((1800 * x) + (6 * k)).toNatClampNeg y1) (((1800 * x) + (6 * k)) + 1).toNatClampNeg y2) (((1800 * x) + (6 * k)) + 2).toNatClampNeg (-1)))), (a1, .inl (cI, 2, .inl ct))] := hD
              refine lv_aload_n hx hb dX9_put_238 rfl (lv_at hl 1 rfl) ?_
              refine va_get (D := (dC, dI)) (ci := 9) (v := .ref a0) (C := RX9) (T := TX9) (N := 17) hx hb hts inc_X9_put_9 hown hG.1 hP 0 rfl rfl 1 (by decide) (hts (.fieldLink RX9 13 "MappingDeskModel" "rows" "[I") (by decide +kernel)) (fun _ h9 => h9) rfl dX9_put_239 ?_
              refine lv_iload hx hb dX9_put_242 (lv_at hl 0 rfl) ?_
              refine lv_iconst (v := 3) hx hb dX9_put_244 (by decide) ?_
              refine lv_iadd hx hb dX9_put_245 ?_
              refine lv_iload hx hb dX9_put_246 (lv_at hl 5 rfl) ?_
              refine lv_if_ge (tgt := 255) hx hb dX9_put_248 (by decide) (fun c_650 => ?_) (fun c_650 => ?_)
              · exact absurd c_650 c_437
              · refine lv_iconst (v := 0) hx hb dX9_put_251 (by decide) ?_
                refine lv_goto (tgt := 257) hx hb dX9_put_252 (by decide) ?_
                have b_651 : vp_in (((1800 * x) + (6 * k)) + 3) 3600 := by
                  have k_652 : (0 : Int32).toInt = 0 := by decide
                  have q_653 := i_nle c_1
                  have q_654 := i_eq c_412
                  have q_655 := i_nle c_437
                  have q_656 := i_nle c_650
                  try have hq7 := hct x.toNatClampNeg (cl_lt (by omega) (by omega))
                  have k_657 : (1800 : Int32).toInt = 1800 := by decide
                  have t_658 : ((1800 * x)).toInt = 1800 * (x).toInt := by
                    have z := ti_mul (a := 1800) (b := x) (by rw [show (1800 : Int32).toInt = 1800 from by decide]; omega) (by rw [show (1800 : Int32).toInt = 1800 from by decide]; omega)
                    rw [z, show (1800 : Int32).toInt = 1800 from by decide]
                  have k_659 : (6 : Int32).toInt = 6 := by decide
                  have t_660 : ((6 * k)).toInt = 6 * (k).toInt := by
                    have z := ti_mul (a := 6) (b := k) (by rw [show (6 : Int32).toInt = 6 from by decide]; omega) (by rw [show (6 : Int32).toInt = 6 from by decide]; omega)
                    rw [z, show (6 : Int32).toInt = 6 from by decide]
                  have t_661 := ti_add (a := (1800 * x)) (b := (6 * k)) (by omega) (by omega)
                  have k_662 : (3 : Int32).toInt = 3 := by decide
                  have t_663 := ti_add (a := ((1800 * x) + (6 * k))) (b := 3) (by omega) (by omega)
                  refine vin ?_ ?_
                  all_goals (try generalize Int32.toInt (((1800 * x) + (6 * k)) + 3) = z0 at *; try generalize Int32.toInt ((1800 * x) + (6 * k)) = z1 at *; try generalize Int32.toInt (ct x.toNatClampNeg) = z2 at *; try generalize Int32.toInt (1800 * x) = z3 at *; try generalize Int32.toInt (6 * k) = z4 at *; try generalize Int32.toInt r_411 = z5 at *; try generalize Int32.toInt (1800 : Int32) = z6 at *; try generalize Int32.toInt y3 = z7 at *; try generalize Int32.toInt (0 : Int32) = z8 at *; try generalize Int32.toInt (3 : Int32) = z9 at *; try generalize Int32.toInt (6 : Int32) = z10 at *; try generalize Int32.toInt k = z11 at *; try generalize Int32.toInt x = z12 at *; omega)
                refine va_iast hx hb hG.1 hP hD hS 1 2 rfl rfl b_651 dX9_put_257 (fun H locs hP hD hS => ?_)
                have hP : va_P (dC, dI) vwCl [(h0, .inr (9, [.int 0, .ref a0, .ref a1, .ref a2, .int dc, .ref a3, .int tl, .ref a4, .int xl, .int fo, .int fa, .ref a5, .int mn, .ref a6, .int ft, .ref a7, .int wl])), (a0, .inl (cI, 3600, .inl (upd (upd (upd (upd rz ((1800 * x) + (6 * k)).toNatClampNeg y1) (((1800 * x) + (6 * k)) + 1).toNatClampNeg y2) (((1800 * x) + (6 * k)) + 2).toNatClampNeg (-1)) (((1800 * x) + (6 * k)) + 3).toNatClampNeg 0))), (a1, .inl (cI, 2, .inl ct))] H := hP
                have hD : va_D A [(h0, .inr (9, [.int 0, .ref a0, .ref a1, .ref a2, .int dc, .ref a3, .int tl, .ref a4, .int xl, .int fo, .int fa, .ref a5, .int mn, .ref a6, .int ft, .ref a7, .int wl])), (a0, .inl (cI, 3600, .inl (upd (upd (upd (upd rz ((1800 * x) + (6 * k)).toNatClampNeg y1) (((1800 * x) + (6 * k)) + 1).toNatClampNeg y2) (((1800 * x) + (6 * k)) + 2).toNatClampNeg (-1)) (((1800 * x) + (6 * k)) + 3).toNatClampNeg 0))), (a1, .inl (cI, 2, .inl ct))] := hD
                refine lv_aload_n hx hb dX9_put_258 rfl (lv_at hl 1 rfl) ?_
                refine va_get (D := (dC, dI)) (ci := 9) (v := .ref a0) (C := RX9) (T := TX9) (N := 17) hx hb hts inc_X9_put_9 hown hG.1 hP 0 rfl rfl 1 (by decide) (hts (.fieldLink RX9 13 "MappingDeskModel" "rows" "[I") (by decide +kernel)) (fun _ h9 => h9) rfl dX9_put_259 ?_
                refine lv_iload hx hb dX9_put_262 (lv_at hl 0 rfl) ?_
                refine lv_iconst (v := 4) hx hb dX9_put_264 (by decide) ?_
                refine lv_iadd hx hb dX9_put_265 ?_
                refine lv_iload hx hb dX9_put_266 (lv_at hl 5 rfl) ?_
                refine lv_if_ge (tgt := 275) hx hb dX9_put_268 (by decide) (fun c_666 => ?_) (fun c_666 => ?_)
                · exact absurd c_666 c_650
                · refine lv_iconst (v := 0) hx hb dX9_put_271 (by decide) ?_
                  refine lv_goto (tgt := 277) hx hb dX9_put_272 (by decide) ?_
                  have b_667 : vp_in (((1800 * x) + (6 * k)) + 4) 3600 := by
                    have k_668 : (0 : Int32).toInt = 0 := by decide
                    have q_669 := i_nle c_1
                    have q_670 := i_eq c_412
                    have q_671 := i_nle c_437
                    have q_672 := i_nle c_650
                    have q_673 := i_nle c_666
                    try have hq7 := hct x.toNatClampNeg (cl_lt (by omega) (by omega))
                    have k_674 : (1800 : Int32).toInt = 1800 := by decide
                    have t_675 : ((1800 * x)).toInt = 1800 * (x).toInt := by
                      have z := ti_mul (a := 1800) (b := x) (by rw [show (1800 : Int32).toInt = 1800 from by decide]; omega) (by rw [show (1800 : Int32).toInt = 1800 from by decide]; omega)
                      rw [z, show (1800 : Int32).toInt = 1800 from by decide]
                    have k_676 : (6 : Int32).toInt = 6 := by decide
                    have t_677 : ((6 * k)).toInt = 6 * (k).toInt := by
                      have z := ti_mul (a := 6) (b := k) (by rw [show (6 : Int32).toInt = 6 from by decide]; omega) (by rw [show (6 : Int32).toInt = 6 from by decide]; omega)
                      rw [z, show (6 : Int32).toInt = 6 from by decide]
                    have t_678 := ti_add (a := (1800 * x)) (b := (6 * k)) (by omega) (by omega)
                    have k_679 : (4 : Int32).toInt = 4 := by decide
                    have t_680 := ti_add (a := ((1800 * x) + (6 * k))) (b := 4) (by omega) (by omega)
                    refine vin ?_ ?_
                    all_goals (try generalize Int32.toInt (((1800 * x) + (6 * k)) + 4) = z0 at *; try generalize Int32.toInt ((1800 * x) + (6 * k)) = z1 at *; try generalize Int32.toInt (ct x.toNatClampNeg) = z2 at *; try generalize Int32.toInt (1800 * x) = z3 at *; try generalize Int32.toInt (6 * k) = z4 at *; try generalize Int32.toInt r_411 = z5 at *; try generalize Int32.toInt (1800 : Int32) = z6 at *; try generalize Int32.toInt y3 = z7 at *; try generalize Int32.toInt (0 : Int32) = z8 at *; try generalize Int32.toInt (4 : Int32) = z9 at *; try generalize Int32.toInt (6 : Int32) = z10 at *; try generalize Int32.toInt k = z11 at *; try generalize Int32.toInt x = z12 at *; omega)
                  refine va_iast hx hb hG.1 hP hD hS 1 2 rfl rfl b_667 dX9_put_277 (fun H locs hP hD hS => ?_)
                  have hP : va_P (dC, dI) vwCl [(h0, .inr (9, [.int 0, .ref a0, .ref a1, .ref a2, .int dc, .ref a3, .int tl, .ref a4, .int xl, .int fo, .int fa, .ref a5, .int mn, .ref a6, .int ft, .ref a7, .int wl])), (a0, .inl (cI, 3600, .inl (upd (upd (upd (upd (upd rz ((1800 * x) + (6 * k)).toNatClampNeg y1) (((1800 * x) + (6 * k)) + 1).toNatClampNeg y2) (((1800 * x) + (6 * k)) + 2).toNatClampNeg (-1)) (((1800 * x) + (6 * k)) + 3).toNatClampNeg 0) (((1800 * x) + (6 * k)) + 4).toNatClampNeg 0))), (a1, .inl (cI, 2, .inl ct))] H := hP
                  have hD : va_D A [(h0, .inr (9, [.int 0, .ref a0, .ref a1, .ref a2, .int dc, .ref a3, .int tl, .ref a4, .int xl, .int fo, .int fa, .ref a5, .int mn, .ref a6, .int ft, .ref a7, .int wl])), (a0, .inl (cI, 3600, .inl (upd (upd (upd (upd (upd rz ((1800 * x) + (6 * k)).toNatClampNeg y1) (((1800 * x) + (6 * k)) + 1).toNatClampNeg y2) (((1800 * x) + (6 * k)) + 2).toNatClampNeg (-1)) (((1800 * x) + (6 * k)) + 3).toNatClampNeg 0) (((1800 * x) + (6 * k)) + 4).toNatClampNeg 0))), (a1, .inl (cI, 2, .inl ct))] := hD
                  refine lv_aload_n hx hb dX9_put_278 rfl (lv_at hl 1 rfl) ?_
                  refine va_get (D := (dC, dI)) (ci := 9) (v := .ref a0) (C := RX9) (T := TX9) (N := 17) hx hb hts inc_X9_put_9 hown hG.1 hP 0 rfl rfl 1 (by decide) (hts (.fieldLink RX9 13 "MappingDeskModel" "rows" "[I") (by decide +kernel)) (fun _ h9 => h9) rfl dX9_put_279 ?_
                  refine lv_iload hx hb dX9_put_282 (lv_at hl 0 rfl) ?_
                  refine lv_iconst (v := 5) hx hb dX9_put_284 (by decide) ?_
                  refine lv_iadd hx hb dX9_put_285 ?_
                  refine lv_iload hx hb dX9_put_286 (lv_at hl 5 rfl) ?_
                  refine lv_if_lt (tgt := 296) hx hb dX9_put_288 (by decide) (fun c_683 => ?_) (fun c_683 => ?_)
                  · rw [if_pos c_683] at hR
                    refine lv_iconst (v := (-1)) hx hb dX9_put_296 (by decide) ?_
                    refine lv_goto (tgt := 302) hx hb dX9_put_297 (by decide) ?_
                    have b_684 : vp_in (((1800 * x) + (6 * k)) + 5) 3600 := by
                      have k_685 : (0 : Int32).toInt = 0 := by decide
                      have q_686 := i_nle c_1
                      have q_687 := i_eq c_412
                      have q_688 := i_nle c_437
                      have q_689 := i_nle c_650
                      have q_690 := i_nle c_666
                      have q_691 := i_lt c_683
                      try have hq7 := hct x.toNatClampNeg (cl_lt (by omega) (by omega))
                      have k_692 : (1800 : Int32).toInt = 1800 := by decide
                      have t_693 : ((1800 * x)).toInt = 1800 * (x).toInt := by
                        have z := ti_mul (a := 1800) (b := x) (by rw [show (1800 : Int32).toInt = 1800 from by decide]; omega) (by rw [show (1800 : Int32).toInt = 1800 from by decide]; omega)
                        rw [z, show (1800 : Int32).toInt = 1800 from by decide]
                      have k_694 : (6 : Int32).toInt = 6 := by decide
                      have t_695 : ((6 * k)).toInt = 6 * (k).toInt := by
                        have z := ti_mul (a := 6) (b := k) (by rw [show (6 : Int32).toInt = 6 from by decide]; omega) (by rw [show (6 : Int32).toInt = 6 from by decide]; omega)
                        rw [z, show (6 : Int32).toInt = 6 from by decide]
                      have t_696 := ti_add (a := (1800 * x)) (b := (6 * k)) (by omega) (by omega)
                      have k_697 : (5 : Int32).toInt = 5 := by decide
                      have t_698 := ti_add (a := ((1800 * x) + (6 * k))) (b := 5) (by omega) (by omega)
                      refine vin ?_ ?_
                      all_goals (try generalize Int32.toInt (((1800 * x) + (6 * k)) + 5) = z0 at *; try generalize Int32.toInt ((1800 * x) + (6 * k)) = z1 at *; try generalize Int32.toInt (ct x.toNatClampNeg) = z2 at *; try generalize Int32.toInt (1800 * x) = z3 at *; try generalize Int32.toInt (6 * k) = z4 at *; try generalize Int32.toInt r_411 = z5 at *; try generalize Int32.toInt (1800 : Int32) = z6 at *; try generalize Int32.toInt y3 = z7 at *; try generalize Int32.toInt (0 : Int32) = z8 at *; try generalize Int32.toInt (5 : Int32) = z9 at *; try generalize Int32.toInt (6 : Int32) = z10 at *; try generalize Int32.toInt k = z11 at *; try generalize Int32.toInt x = z12 at *; omega)
                    refine va_iast hx hb hG.1 hP hD hS 1 2 rfl rfl b_684 dX9_put_302 (fun H locs hP hD hS => ?_)
                    have hP : va_P (dC, dI) vwCl [(h0, .inr (9, [.int 0, .ref a0, .ref a1, .ref a2, .int dc, .ref a3, .int tl, .ref a4, .int xl, .int fo, .int fa, .ref a5, .int mn, .ref a6, .int ft, .ref a7, .int wl])), (a0, .inl (cI, 3600, .inl (upd (upd (upd (upd (upd (upd rz ((1800 * x) + (6 * k)).toNatClampNeg y1) (((1800 * x) + (6 * k)) + 1).toNatClampNeg y2) (((1800 * x) + (6 * k)) + 2).toNatClampNeg (-1)) (((1800 * x) + (6 * k)) + 3).toNatClampNeg 0) (((1800 * x) + (6 * k)) + 4).toNatClampNeg 0) (((1800 * x) + (6 * k)) + 5).toNatClampNeg (-1)))), (a1, .inl (cI, 2, .inl ct))] H := hP
                    have hD : va_D A [(h0, .inr (9, [.int 0, .ref a0, .ref a1, .ref a2, .int dc, .ref a3, .int tl, .ref a4, .int xl, .int fo, .int fa, .ref a5, .int mn, .ref a6, .int ft, .ref a7, .int wl])), (a0, .inl (cI, 3600, .inl (upd (upd (upd (upd (upd (upd rz ((1800 * x) + (6 * k)).toNatClampNeg y1) (((1800 * x) + (6 * k)) + 1).toNatClampNeg y2) (((1800 * x) + (6 * k)) + 2).toNatClampNeg (-1)) (((1800 * x) + (6 * k)) + 3).toNatClampNeg 0) (((1800 * x) + (6 * k)) + 4).toNatClampNeg 0) (((1800 * x) + (6 * k)) + 5).toNatClampNeg (-1)))), (a1, .inl (cI, 2, .inl ct))] := hD
                    refine lv_aload_n hx hb dX9_put_303 rfl (lv_at hl 1 rfl) ?_
                    refine va_get (D := (dC, dI)) (ci := 9) (v := .ref a1) (C := RX9) (T := TX9) (N := 17) hx hb hts inc_X9_put_9 hown hG.1 hP 0 rfl rfl 2 (by decide) (hts (.fieldLink RX9 17 "MappingDeskModel" "count" "[I") (by decide +kernel)) (fun _ h9 => h9) rfl dX9_put_304 ?_
                    refine lv_iload_n hx hb dX9_put_307 rfl (lv_at hl 2 rfl) ?_
                    refine lv_dup2_11 hx hb dX9_put_308 rfl rfl ?_
                    have b_701 : vp_in x 2 := by
                      have k_702 : (0 : Int32).toInt = 0 := by decide
                      have q_703 := i_nle c_1
                      have q_704 := i_eq c_412
                      have q_705 := i_nle c_437
                      have q_706 := i_nle c_650
                      have q_707 := i_nle c_666
                      have q_708 := i_lt c_683
                      try have hq7 := hct x.toNatClampNeg (cl_lt (by omega) (by omega))
                      refine vin ?_ ?_
                      all_goals (try generalize Int32.toInt (ct x.toNatClampNeg) = z0 at *; try generalize Int32.toInt r_411 = z1 at *; try generalize Int32.toInt y3 = z2 at *; try generalize Int32.toInt (0 : Int32) = z3 at *; try generalize Int32.toInt k = z4 at *; try generalize Int32.toInt x = z5 at *; omega)
                    refine va_iald hx hb hG.1 hP 2 2 rfl rfl b_701 dX9_put_309 ?_
                    refine lv_iconst (v := 1) hx hb dX9_put_310 (by decide) ?_
                    refine lv_iadd hx hb dX9_put_311 ?_
                    have b_711 : vp_in x 2 := by
                      have k_712 : (0 : Int32).toInt = 0 := by decide
                      have q_713 := i_nle c_1
                      have q_714 := i_eq c_412
                      have q_715 := i_nle c_437
                      have q_716 := i_nle c_650
                      have q_717 := i_nle c_666
                      have q_718 := i_lt c_683
                      try have hq7 := hct x.toNatClampNeg (cl_lt (by omega) (by omega))
                      refine vin ?_ ?_
                      all_goals (try generalize Int32.toInt (ct x.toNatClampNeg) = z0 at *; try generalize Int32.toInt r_411 = z1 at *; try generalize Int32.toInt y3 = z2 at *; try generalize Int32.toInt (0 : Int32) = z3 at *; try generalize Int32.toInt k = z4 at *; try generalize Int32.toInt x = z5 at *; omega)
                    refine va_iast hx hb hG.1 hP hD hS 2 2 rfl rfl b_711 dX9_put_312 (fun H locs hP hD hS => ?_)
                    have hP : va_P (dC, dI) vwCl [(h0, .inr (9, [.int 0, .ref a0, .ref a1, .ref a2, .int dc, .ref a3, .int tl, .ref a4, .int xl, .int fo, .int fa, .ref a5, .int mn, .ref a6, .int ft, .ref a7, .int wl])), (a0, .inl (cI, 3600, .inl (upd (upd (upd (upd (upd (upd rz ((1800 * x) + (6 * k)).toNatClampNeg y1) (((1800 * x) + (6 * k)) + 1).toNatClampNeg y2) (((1800 * x) + (6 * k)) + 2).toNatClampNeg (-1)) (((1800 * x) + (6 * k)) + 3).toNatClampNeg 0) (((1800 * x) + (6 * k)) + 4).toNatClampNeg 0) (((1800 * x) + (6 * k)) + 5).toNatClampNeg (-1)))), (a1, .inl (cI, 2, .inl (upd ct x.toNatClampNeg ((ct x.toNatClampNeg) + 1))))] H := hP
                    have hD : va_D A [(h0, .inr (9, [.int 0, .ref a0, .ref a1, .ref a2, .int dc, .ref a3, .int tl, .ref a4, .int xl, .int fo, .int fa, .ref a5, .int mn, .ref a6, .int ft, .ref a7, .int wl])), (a0, .inl (cI, 3600, .inl (upd (upd (upd (upd (upd (upd rz ((1800 * x) + (6 * k)).toNatClampNeg y1) (((1800 * x) + (6 * k)) + 1).toNatClampNeg y2) (((1800 * x) + (6 * k)) + 2).toNatClampNeg (-1)) (((1800 * x) + (6 * k)) + 3).toNatClampNeg 0) (((1800 * x) + (6 * k)) + 4).toNatClampNeg 0) (((1800 * x) + (6 * k)) + 5).toNatClampNeg (-1)))), (a1, .inl (cI, 2, .inl (upd ct x.toNatClampNeg ((ct x.toNatClampNeg) + 1))))] := hD
                    refine lv_aload_n hx hb dX9_put_313 rfl (lv_at hl 1 rfl) ?_
                    refine va_get (D := (dC, dI)) (ci := 9) (v := .ref a1) (C := RX9) (T := TX9) (N := 17) hx hb hts inc_X9_put_9 hown hG.1 hP 0 rfl rfl 2 (by decide) (hts (.fieldLink RX9 17 "MappingDeskModel" "count" "[I") (by decide +kernel)) (fun _ h9 => h9) rfl dX9_put_314 ?_
                    refine lv_iload_n hx hb dX9_put_317 rfl (lv_at hl 2 rfl) ?_
                    have b_721 : vp_in x 2 := by
                      have k_722 : (0 : Int32).toInt = 0 := by decide
                      have q_723 := i_nle c_1
                      have q_724 := i_eq c_412
                      have q_725 := i_nle c_437
                      have q_726 := i_nle c_650
                      have q_727 := i_nle c_666
                      have q_728 := i_lt c_683
                      try have hq7 := hct x.toNatClampNeg (cl_lt (by omega) (by omega))
                      refine vin ?_ ?_
                      all_goals (try generalize Int32.toInt (ct x.toNatClampNeg) = z0 at *; try generalize Int32.toInt r_411 = z1 at *; try generalize Int32.toInt y3 = z2 at *; try generalize Int32.toInt (0 : Int32) = z3 at *; try generalize Int32.toInt k = z4 at *; try generalize Int32.toInt x = z5 at *; omega)
                    refine va_iald hx hb hG.1 hP 2 2 rfl rfl b_721 dX9_put_318 ?_
                    subst hR
                    exact W.iret (v := ((upd ct x.toNatClampNeg ((ct x.toNatClampNeg) + 1)) x.toNatClampNeg)) hx hb hr (fun t ht hW => ⟨⟨((upd ct x.toNatClampNeg ((ct x.toNatClampNeg) + 1)) x.toNatClampNeg), (), rfl, rfl, by rw [ht]; exact hP, hD⟩, hS.F ht⟩) hS.2.2 dX9_put_319
                  · rw [if_neg c_683] at hR
                    refine lv_iload hx hb dX9_put_291 (lv_at hl 8 rfl) ?_
                    refine lv_if_ge (tgt := 300) hx hb dX9_put_293 (by decide) (fun c_731 => ?_) (fun c_731 => ?_)
                    · rw [if_pos c_731] at hR
                      refine lv_iload hx hb dX9_put_300 (lv_at hl 8 rfl) ?_
                      have b_732 : vp_in (((1800 * x) + (6 * k)) + 5) 3600 := by
                        have k_733 : (0 : Int32).toInt = 0 := by decide
                        have q_734 := i_nle c_1
                        have q_735 := i_eq c_412
                        have q_736 := i_nle c_437
                        have q_737 := i_nle c_650
                        have q_738 := i_nle c_666
                        have q_739 := i_nlt c_683
                        have q_740 := i_le c_731
                        try have hq7 := hct x.toNatClampNeg (cl_lt (by omega) (by omega))
                        have k_741 : (1800 : Int32).toInt = 1800 := by decide
                        have t_742 : ((1800 * x)).toInt = 1800 * (x).toInt := by
                          have z := ti_mul (a := 1800) (b := x) (by rw [show (1800 : Int32).toInt = 1800 from by decide]; omega) (by rw [show (1800 : Int32).toInt = 1800 from by decide]; omega)
                          rw [z, show (1800 : Int32).toInt = 1800 from by decide]
                        have k_743 : (6 : Int32).toInt = 6 := by decide
                        have t_744 : ((6 * k)).toInt = 6 * (k).toInt := by
                          have z := ti_mul (a := 6) (b := k) (by rw [show (6 : Int32).toInt = 6 from by decide]; omega) (by rw [show (6 : Int32).toInt = 6 from by decide]; omega)
                          rw [z, show (6 : Int32).toInt = 6 from by decide]
                        have t_745 := ti_add (a := (1800 * x)) (b := (6 * k)) (by omega) (by omega)
                        have k_746 : (5 : Int32).toInt = 5 := by decide
                        have t_747 := ti_add (a := ((1800 * x) + (6 * k))) (b := 5) (by omega) (by omega)
                        refine vin ?_ ?_
                        all_goals (try generalize Int32.toInt (((1800 * x) + (6 * k)) + 5) = z0 at *; try generalize Int32.toInt ((1800 * x) + (6 * k)) = z1 at *; try generalize Int32.toInt (ct x.toNatClampNeg) = z2 at *; try generalize Int32.toInt (1800 * x) = z3 at *; try generalize Int32.toInt (6 * k) = z4 at *; try generalize Int32.toInt r_411 = z5 at *; try generalize Int32.toInt (1800 : Int32) = z6 at *; try generalize Int32.toInt y3 = z7 at *; try generalize Int32.toInt y6 = z8 at *; try generalize Int32.toInt (0 : Int32) = z9 at *; try generalize Int32.toInt (5 : Int32) = z10 at *; try generalize Int32.toInt (6 : Int32) = z11 at *; try generalize Int32.toInt k = z12 at *; try generalize Int32.toInt x = z13 at *; omega)
                      refine va_iast hx hb hG.1 hP hD hS 1 2 rfl rfl b_732 dX9_put_302 (fun H locs hP hD hS => ?_)
                      have hP : va_P (dC, dI) vwCl [(h0, .inr (9, [.int 0, .ref a0, .ref a1, .ref a2, .int dc, .ref a3, .int tl, .ref a4, .int xl, .int fo, .int fa, .ref a5, .int mn, .ref a6, .int ft, .ref a7, .int wl])), (a0, .inl (cI, 3600, .inl (upd (upd (upd (upd (upd (upd rz ((1800 * x) + (6 * k)).toNatClampNeg y1) (((1800 * x) + (6 * k)) + 1).toNatClampNeg y2) (((1800 * x) + (6 * k)) + 2).toNatClampNeg (-1)) (((1800 * x) + (6 * k)) + 3).toNatClampNeg 0) (((1800 * x) + (6 * k)) + 4).toNatClampNeg 0) (((1800 * x) + (6 * k)) + 5).toNatClampNeg y6))), (a1, .inl (cI, 2, .inl ct))] H := hP
                      have hD : va_D A [(h0, .inr (9, [.int 0, .ref a0, .ref a1, .ref a2, .int dc, .ref a3, .int tl, .ref a4, .int xl, .int fo, .int fa, .ref a5, .int mn, .ref a6, .int ft, .ref a7, .int wl])), (a0, .inl (cI, 3600, .inl (upd (upd (upd (upd (upd (upd rz ((1800 * x) + (6 * k)).toNatClampNeg y1) (((1800 * x) + (6 * k)) + 1).toNatClampNeg y2) (((1800 * x) + (6 * k)) + 2).toNatClampNeg (-1)) (((1800 * x) + (6 * k)) + 3).toNatClampNeg 0) (((1800 * x) + (6 * k)) + 4).toNatClampNeg 0) (((1800 * x) + (6 * k)) + 5).toNatClampNeg y6))), (a1, .inl (cI, 2, .inl ct))] := hD
                      refine lv_aload_n hx hb dX9_put_303 rfl (lv_at hl 1 rfl) ?_
                      refine va_get (D := (dC, dI)) (ci := 9) (v := .ref a1) (C := RX9) (T := TX9) (N := 17) hx hb hts inc_X9_put_9 hown hG.1 hP 0 rfl rfl 2 (by decide) (hts (.fieldLink RX9 17 "MappingDeskModel" "count" "[I") (by decide +kernel)) (fun _ h9 => h9) rfl dX9_put_304 ?_
                      refine lv_iload_n hx hb dX9_put_307 rfl (lv_at hl 2 rfl) ?_
                      refine lv_dup2_11 hx hb dX9_put_308 rfl rfl ?_
                      have b_750 : vp_in x 2 := by
                        have k_751 : (0 : Int32).toInt = 0 := by decide
                        have q_752 := i_nle c_1
                        have q_753 := i_eq c_412
                        have q_754 := i_nle c_437
                        have q_755 := i_nle c_650
                        have q_756 := i_nle c_666
                        have q_757 := i_nlt c_683
                        have q_758 := i_le c_731
                        try have hq7 := hct x.toNatClampNeg (cl_lt (by omega) (by omega))
                        refine vin ?_ ?_
                        all_goals (try generalize Int32.toInt (ct x.toNatClampNeg) = z0 at *; try generalize Int32.toInt r_411 = z1 at *; try generalize Int32.toInt y3 = z2 at *; try generalize Int32.toInt y6 = z3 at *; try generalize Int32.toInt (0 : Int32) = z4 at *; try generalize Int32.toInt k = z5 at *; try generalize Int32.toInt x = z6 at *; omega)
                      refine va_iald hx hb hG.1 hP 2 2 rfl rfl b_750 dX9_put_309 ?_
                      refine lv_iconst (v := 1) hx hb dX9_put_310 (by decide) ?_
                      refine lv_iadd hx hb dX9_put_311 ?_
                      have b_761 : vp_in x 2 := by
                        have k_762 : (0 : Int32).toInt = 0 := by decide
                        have q_763 := i_nle c_1
                        have q_764 := i_eq c_412
                        have q_765 := i_nle c_437
                        have q_766 := i_nle c_650
                        have q_767 := i_nle c_666
                        have q_768 := i_nlt c_683
                        have q_769 := i_le c_731
                        try have hq7 := hct x.toNatClampNeg (cl_lt (by omega) (by omega))
                        refine vin ?_ ?_
                        all_goals (try generalize Int32.toInt (ct x.toNatClampNeg) = z0 at *; try generalize Int32.toInt r_411 = z1 at *; try generalize Int32.toInt y3 = z2 at *; try generalize Int32.toInt y6 = z3 at *; try generalize Int32.toInt (0 : Int32) = z4 at *; try generalize Int32.toInt k = z5 at *; try generalize Int32.toInt x = z6 at *; omega)
                      refine va_iast hx hb hG.1 hP hD hS 2 2 rfl rfl b_761 dX9_put_312 (fun H locs hP hD hS => ?_)
                      have hP : va_P (dC, dI) vwCl [(h0, .inr (9, [.int 0, .ref a0, .ref a1, .ref a2, .int dc, .ref a3, .int tl, .ref a4, .int xl, .int fo, .int fa, .ref a5, .int mn, .ref a6, .int ft, .ref a7, .int wl])), (a0, .inl (cI, 3600, .inl (upd (upd (upd (upd (upd (upd rz ((1800 * x) + (6 * k)).toNatClampNeg y1) (((1800 * x) + (6 * k)) + 1).toNatClampNeg y2) (((1800 * x) + (6 * k)) + 2).toNatClampNeg (-1)) (((1800 * x) + (6 * k)) + 3).toNatClampNeg 0) (((1800 * x) + (6 * k)) + 4).toNatClampNeg 0) (((1800 * x) + (6 * k)) + 5).toNatClampNeg y6))), (a1, .inl (cI, 2, .inl (upd ct x.toNatClampNeg ((ct x.toNatClampNeg) + 1))))] H := hP
                      have hD : va_D A [(h0, .inr (9, [.int 0, .ref a0, .ref a1, .ref a2, .int dc, .ref a3, .int tl, .ref a4, .int xl, .int fo, .int fa, .ref a5, .int mn, .ref a6, .int ft, .ref a7, .int wl])), (a0, .inl (cI, 3600, .inl (upd (upd (upd (upd (upd (upd rz ((1800 * x) + (6 * k)).toNatClampNeg y1) (((1800 * x) + (6 * k)) + 1).toNatClampNeg y2) (((1800 * x) + (6 * k)) + 2).toNatClampNeg (-1)) (((1800 * x) + (6 * k)) + 3).toNatClampNeg 0) (((1800 * x) + (6 * k)) + 4).toNatClampNeg 0) (((1800 * x) + (6 * k)) + 5).toNatClampNeg y6))), (a1, .inl (cI, 2, .inl (upd ct x.toNatClampNeg ((ct x.toNatClampNeg) + 1))))] := hD
                      refine lv_aload_n hx hb dX9_put_313 rfl (lv_at hl 1 rfl) ?_
                      refine va_get (D := (dC, dI)) (ci := 9) (v := .ref a1) (C := RX9) (T := TX9) (N := 17) hx hb hts inc_X9_put_9 hown hG.1 hP 0 rfl rfl 2 (by decide) (hts (.fieldLink RX9 17 "MappingDeskModel" "count" "[I") (by decide +kernel)) (fun _ h9 => h9) rfl dX9_put_314 ?_
                      refine lv_iload_n hx hb dX9_put_317 rfl (lv_at hl 2 rfl) ?_
                      have b_772 : vp_in x 2 := by
                        have k_773 : (0 : Int32).toInt = 0 := by decide
                        have q_774 := i_nle c_1
                        have q_775 := i_eq c_412
                        have q_776 := i_nle c_437
                        have q_777 := i_nle c_650
                        have q_778 := i_nle c_666
                        have q_779 := i_nlt c_683
                        have q_780 := i_le c_731
                        try have hq7 := hct x.toNatClampNeg (cl_lt (by omega) (by omega))
                        refine vin ?_ ?_
                        all_goals (try generalize Int32.toInt (ct x.toNatClampNeg) = z0 at *; try generalize Int32.toInt r_411 = z1 at *; try generalize Int32.toInt y3 = z2 at *; try generalize Int32.toInt y6 = z3 at *; try generalize Int32.toInt (0 : Int32) = z4 at *; try generalize Int32.toInt k = z5 at *; try generalize Int32.toInt x = z6 at *; omega)
                      refine va_iald hx hb hG.1 hP 2 2 rfl rfl b_772 dX9_put_318 ?_
                      subst hR
                      exact W.iret (v := ((upd ct x.toNatClampNeg ((ct x.toNatClampNeg) + 1)) x.toNatClampNeg)) hx hb hr (fun t ht hW => ⟨⟨((upd ct x.toNatClampNeg ((ct x.toNatClampNeg) + 1)) x.toNatClampNeg), (), rfl, rfl, by rw [ht]; exact hP, hD⟩, hS.F ht⟩) hS.2.2 dX9_put_319
                    · rw [if_neg c_731] at hR
                      refine lv_iconst (v := (-1)) hx hb dX9_put_296 (by decide) ?_
                      refine lv_goto (tgt := 302) hx hb dX9_put_297 (by decide) ?_
                      have b_783 : vp_in (((1800 * x) + (6 * k)) + 5) 3600 := by
                        have k_784 : (0 : Int32).toInt = 0 := by decide
                        have q_785 := i_nle c_1
                        have q_786 := i_eq c_412
                        have q_787 := i_nle c_437
                        have q_788 := i_nle c_650
                        have q_789 := i_nle c_666
                        have q_790 := i_nlt c_683
                        have q_791 := i_nle c_731
                        try have hq7 := hct x.toNatClampNeg (cl_lt (by omega) (by omega))
                        have k_792 : (1800 : Int32).toInt = 1800 := by decide
                        have t_793 : ((1800 * x)).toInt = 1800 * (x).toInt := by
                          have z := ti_mul (a := 1800) (b := x) (by rw [show (1800 : Int32).toInt = 1800 from by decide]; omega) (by rw [show (1800 : Int32).toInt = 1800 from by decide]; omega)
                          rw [z, show (1800 : Int32).toInt = 1800 from by decide]
                        have k_794 : (6 : Int32).toInt = 6 := by decide
                        have t_795 : ((6 * k)).toInt = 6 * (k).toInt := by
                          have z := ti_mul (a := 6) (b := k) (by rw [show (6 : Int32).toInt = 6 from by decide]; omega) (by rw [show (6 : Int32).toInt = 6 from by decide]; omega)
                          rw [z, show (6 : Int32).toInt = 6 from by decide]
                        have t_796 := ti_add (a := (1800 * x)) (b := (6 * k)) (by omega) (by omega)
                        have k_797 : (5 : Int32).toInt = 5 := by decide
                        have t_798 := ti_add (a := ((1800 * x) + (6 * k))) (b := 5) (by omega) (by omega)
                        refine vin ?_ ?_
                        all_goals (try generalize Int32.toInt (((1800 * x) + (6 * k)) + 5) = z0 at *; try generalize Int32.toInt ((1800 * x) + (6 * k)) = z1 at *; try generalize Int32.toInt (ct x.toNatClampNeg) = z2 at *; try generalize Int32.toInt (1800 * x) = z3 at *; try generalize Int32.toInt (6 * k) = z4 at *; try generalize Int32.toInt r_411 = z5 at *; try generalize Int32.toInt (1800 : Int32) = z6 at *; try generalize Int32.toInt y3 = z7 at *; try generalize Int32.toInt y6 = z8 at *; try generalize Int32.toInt (0 : Int32) = z9 at *; try generalize Int32.toInt (5 : Int32) = z10 at *; try generalize Int32.toInt (6 : Int32) = z11 at *; try generalize Int32.toInt k = z12 at *; try generalize Int32.toInt x = z13 at *; omega)
                      refine va_iast hx hb hG.1 hP hD hS 1 2 rfl rfl b_783 dX9_put_302 (fun H locs hP hD hS => ?_)
                      have hP : va_P (dC, dI) vwCl [(h0, .inr (9, [.int 0, .ref a0, .ref a1, .ref a2, .int dc, .ref a3, .int tl, .ref a4, .int xl, .int fo, .int fa, .ref a5, .int mn, .ref a6, .int ft, .ref a7, .int wl])), (a0, .inl (cI, 3600, .inl (upd (upd (upd (upd (upd (upd rz ((1800 * x) + (6 * k)).toNatClampNeg y1) (((1800 * x) + (6 * k)) + 1).toNatClampNeg y2) (((1800 * x) + (6 * k)) + 2).toNatClampNeg (-1)) (((1800 * x) + (6 * k)) + 3).toNatClampNeg 0) (((1800 * x) + (6 * k)) + 4).toNatClampNeg 0) (((1800 * x) + (6 * k)) + 5).toNatClampNeg (-1)))), (a1, .inl (cI, 2, .inl ct))] H := hP
                      have hD : va_D A [(h0, .inr (9, [.int 0, .ref a0, .ref a1, .ref a2, .int dc, .ref a3, .int tl, .ref a4, .int xl, .int fo, .int fa, .ref a5, .int mn, .ref a6, .int ft, .ref a7, .int wl])), (a0, .inl (cI, 3600, .inl (upd (upd (upd (upd (upd (upd rz ((1800 * x) + (6 * k)).toNatClampNeg y1) (((1800 * x) + (6 * k)) + 1).toNatClampNeg y2) (((1800 * x) + (6 * k)) + 2).toNatClampNeg (-1)) (((1800 * x) + (6 * k)) + 3).toNatClampNeg 0) (((1800 * x) + (6 * k)) + 4).toNatClampNeg 0) (((1800 * x) + (6 * k)) + 5).toNatClampNeg (-1)))), (a1, .inl (cI, 2, .inl ct))] := hD
                      refine lv_aload_n hx hb dX9_put_303 rfl (lv_at hl 1 rfl) ?_
                      refine va_get (D := (dC, dI)) (ci := 9) (v := .ref a1) (C := RX9) (T := TX9) (N := 17) hx hb hts inc_X9_put_9 hown hG.1 hP 0 rfl rfl 2 (by decide) (hts (.fieldLink RX9 17 "MappingDeskModel" "count" "[I") (by decide +kernel)) (fun _ h9 => h9) rfl dX9_put_304 ?_
                      refine lv_iload_n hx hb dX9_put_307 rfl (lv_at hl 2 rfl) ?_
                      refine lv_dup2_11 hx hb dX9_put_308 rfl rfl ?_
                      have b_801 : vp_in x 2 := by
                        have k_802 : (0 : Int32).toInt = 0 := by decide
                        have q_803 := i_nle c_1
                        have q_804 := i_eq c_412
                        have q_805 := i_nle c_437
                        have q_806 := i_nle c_650
                        have q_807 := i_nle c_666
                        have q_808 := i_nlt c_683
                        have q_809 := i_nle c_731
                        try have hq7 := hct x.toNatClampNeg (cl_lt (by omega) (by omega))
                        refine vin ?_ ?_
                        all_goals (try generalize Int32.toInt (ct x.toNatClampNeg) = z0 at *; try generalize Int32.toInt r_411 = z1 at *; try generalize Int32.toInt y3 = z2 at *; try generalize Int32.toInt y6 = z3 at *; try generalize Int32.toInt (0 : Int32) = z4 at *; try generalize Int32.toInt k = z5 at *; try generalize Int32.toInt x = z6 at *; omega)
                      refine va_iald hx hb hG.1 hP 2 2 rfl rfl b_801 dX9_put_309 ?_
                      refine lv_iconst (v := 1) hx hb dX9_put_310 (by decide) ?_
                      refine lv_iadd hx hb dX9_put_311 ?_
                      have b_812 : vp_in x 2 := by
                        have k_813 : (0 : Int32).toInt = 0 := by decide
                        have q_814 := i_nle c_1
                        have q_815 := i_eq c_412
                        have q_816 := i_nle c_437
                        have q_817 := i_nle c_650
                        have q_818 := i_nle c_666
                        have q_819 := i_nlt c_683
                        have q_820 := i_nle c_731
                        try have hq7 := hct x.toNatClampNeg (cl_lt (by omega) (by omega))
                        refine vin ?_ ?_
                        all_goals (try generalize Int32.toInt (ct x.toNatClampNeg) = z0 at *; try generalize Int32.toInt r_411 = z1 at *; try generalize Int32.toInt y3 = z2 at *; try generalize Int32.toInt y6 = z3 at *; try generalize Int32.toInt (0 : Int32) = z4 at *; try generalize Int32.toInt k = z5 at *; try generalize Int32.toInt x = z6 at *; omega)
                      refine va_iast hx hb hG.1 hP hD hS 2 2 rfl rfl b_812 dX9_put_312 (fun H locs hP hD hS => ?_)
                      have hP : va_P (dC, dI) vwCl [(h0, .inr (9, [.int 0, .ref a0, .ref a1, .ref a2, .int dc, .ref a3, .int tl, .ref a4, .int xl, .int fo, .int fa, .ref a5, .int mn, .ref a6, .int ft, .ref a7, .int wl])), (a0, .inl (cI, 3600, .inl (upd (upd (upd (upd (upd (upd rz ((1800 * x) + (6 * k)).toNatClampNeg y1) (((1800 * x) + (6 * k)) + 1).toNatClampNeg y2) (((1800 * x) + (6 * k)) + 2).toNatClampNeg (-1)) (((1800 * x) + (6 * k)) + 3).toNatClampNeg 0) (((1800 * x) + (6 * k)) + 4).toNatClampNeg 0) (((1800 * x) + (6 * k)) + 5).toNatClampNeg (-1)))), (a1, .inl (cI, 2, .inl (upd ct x.toNatClampNeg ((ct x.toNatClampNeg) + 1))))] H := hP
                      have hD : va_D A [(h0, .inr (9, [.int 0, .ref a0, .ref a1, .ref a2, .int dc, .ref a3, .int tl, .ref a4, .int xl, .int fo, .int fa, .ref a5, .int mn, .ref a6, .int ft, .ref a7, .int wl])), (a0, .inl (cI, 3600, .inl (upd (upd (upd (upd (upd (upd rz ((1800 * x) + (6 * k)).toNatClampNeg y1) (((1800 * x) + (6 * k)) + 1).toNatClampNeg y2) (((1800 * x) + (6 * k)) + 2).toNatClampNeg (-1)) (((1800 * x) + (6 * k)) + 3).toNatClampNeg 0) (((1800 * x) + (6 * k)) + 4).toNatClampNeg 0) (((1800 * x) + (6 * k)) + 5).toNatClampNeg (-1)))), (a1, .inl (cI, 2, .inl (upd ct x.toNatClampNeg ((ct x.toNatClampNeg) + 1))))] := hD
                      refine lv_aload_n hx hb dX9_put_313 rfl (lv_at hl 1 rfl) ?_
                      refine va_get (D := (dC, dI)) (ci := 9) (v := .ref a1) (C := RX9) (T := TX9) (N := 17) hx hb hts inc_X9_put_9 hown hG.1 hP 0 rfl rfl 2 (by decide) (hts (.fieldLink RX9 17 "MappingDeskModel" "count" "[I") (by decide +kernel)) (fun _ h9 => h9) rfl dX9_put_314 ?_
                      refine lv_iload_n hx hb dX9_put_317 rfl (lv_at hl 2 rfl) ?_
                      have b_823 : vp_in x 2 := by
                        have k_824 : (0 : Int32).toInt = 0 := by decide
                        have q_825 := i_nle c_1
                        have q_826 := i_eq c_412
                        have q_827 := i_nle c_437
                        have q_828 := i_nle c_650
                        have q_829 := i_nle c_666
                        have q_830 := i_nlt c_683
                        have q_831 := i_nle c_731
                        try have hq7 := hct x.toNatClampNeg (cl_lt (by omega) (by omega))
                        refine vin ?_ ?_
                        all_goals (try generalize Int32.toInt (ct x.toNatClampNeg) = z0 at *; try generalize Int32.toInt r_411 = z1 at *; try generalize Int32.toInt y3 = z2 at *; try generalize Int32.toInt y6 = z3 at *; try generalize Int32.toInt (0 : Int32) = z4 at *; try generalize Int32.toInt k = z5 at *; try generalize Int32.toInt x = z6 at *; omega)
                      refine va_iald hx hb hG.1 hP 2 2 rfl rfl b_823 dX9_put_318 ?_
                      subst hR
                      exact W.iret (v := ((upd ct x.toNatClampNeg ((ct x.toNatClampNeg) + 1)) x.toNatClampNeg)) hx hb hr (fun t ht hW => ⟨⟨((upd ct x.toNatClampNeg ((ct x.toNatClampNeg) + 1)) x.toNatClampNeg), (), rfl, rfl, by rw [ht]; exact hP, hD⟩, hS.F ht⟩) hS.2.2 dX9_put_319
          · rw [if_neg c_412] at hR
            refine lv_iconst (v := 0) hx hb dX9_put_134 (by decide) ?_
            refine lv_istore (lv' := [(10, .int 0), (0, .ref h0), (1, .int x), (2, .int y1), (3, .int y2), (4, .int y3), (5, .int y4), (6, .int y5), (7, .int y6), (8, .int (1800 * x)), (9, .int k)]) hx hb dX9_put_135 hl (by decide) rfl (fun ls hl => ?_)
            have v_837 : 0 ≤ x.toInt := by
              first | exact hx0 | assumption
            have v_838 : x.toInt ≤ 1 := by
              first | exact hx1 | assumption
            have v_839 : k.toInt ≤ (ct x.toNatClampNeg).toInt := by
              have k_840 : (0 : Int32).toInt = 0 := by decide
              have q_841 := i_nle c_1
              have q_842 := i_ne c_412
              try have hq7 := hct x.toNatClampNeg (cl_lt (by omega) (by omega))
              try generalize Int32.toInt (ct x.toNatClampNeg) = z0 at *
              try generalize Int32.toInt r_411 = z1 at *
              try generalize Int32.toInt (0 : Int32) = z2 at *
              try generalize Int32.toInt k = z3 at *
              try generalize Int32.toInt x = z4 at *
              omega
            have v_843 : (ct x.toNatClampNeg).toInt ≤ 299 := by
              first | exact hc9 | assumption
            have v_844 : 1 ≤ k.toInt := by
              have k_845 : (0 : Int32).toInt = 0 := by decide
              have q_846 := i_nle c_1
              have q_847 := i_ne c_412
              try have hq7 := hct x.toNatClampNeg (cl_lt (by omega) (by omega))
              try generalize Int32.toInt (ct x.toNatClampNeg) = z0 at *
              try generalize Int32.toInt r_411 = z1 at *
              try generalize Int32.toInt (0 : Int32) = z2 at *
              try generalize Int32.toInt k = z3 at *
              try generalize Int32.toInt x = z4 at *
              omega
            have v_848 : 0 ≤ (0 : Int32).toInt := by
              have k_849 : (0 : Int32).toInt = 0 := by decide
              have q_850 := i_nle c_1
              have q_851 := i_ne c_412
              try have hq7 := hct x.toNatClampNeg (cl_lt (by omega) (by omega))
              try generalize Int32.toInt (ct x.toNatClampNeg) = z0 at *
              try generalize Int32.toInt r_411 = z1 at *
              try generalize Int32.toInt (0 : Int32) = z2 at *
              try generalize Int32.toInt k = z3 at *
              try generalize Int32.toInt x = z4 at *
              omega
            have v_852 : (0 : Int32).toInt ≤ 6 := by
              have k_853 : (0 : Int32).toInt = 0 := by decide
              have q_854 := i_nle c_1
              have q_855 := i_ne c_412
              try have hq7 := hct x.toNatClampNeg (cl_lt (by omega) (by omega))
              try generalize Int32.toInt (ct x.toNatClampNeg) = z0 at *
              try generalize Int32.toInt r_411 = z1 at *
              try generalize Int32.toInt (0 : Int32) = z2 at *
              try generalize Int32.toInt k = z3 at *
              try generalize Int32.toInt x = z4 at *
              omega
            have v_856 : 8 * k.toInt + 6 - (0 : Int32).toInt < ((n : Nat) : Int) := by
              have k_857 : (0 : Int32).toInt = 0 := by decide
              have q_858 := i_nle c_1
              have q_859 := i_ne c_412
              try have hq7 := hct x.toNatClampNeg (cl_lt (by omega) (by omega))
              try generalize Int32.toInt (ct x.toNatClampNeg) = z0 at *
              try generalize Int32.toInt r_411 = z1 at *
              try generalize Int32.toInt (0 : Int32) = z2 at *
              try generalize Int32.toInt k = z3 at *
              try generalize Int32.toInt x = z4 at *
              omega
            exact ih_137 (k) (0) (rz) _ _ ls hR v_837 v_838 v_839 v_843 v_844 v_848 v_852 v_856 hP hD hS (lv_sub hl [1, 2, 3, 4, 5, 6, 7, 8, 9, 10, 0] rfl)
      · intro k f rz H locs ls hR hx0 hx1 hk1 hc9 hk0 hf0 hf1 hmu hP hD hS hl
        rw [fX9_put_A] at hR
        rw [if_neg (by decide)] at hR
        refine lv_iload hx hb dX9_put_137 (lv_at hl 10 rfl) ?_
        refine lv_bipush (v := 6) hx hb dX9_put_139 (by decide) ?_
        refine lv_icmp_ge (tgt := 184) hx hb dX9_put_141 (by decide) (fun c_860 => ?_) (fun c_860 => ?_)
        · rw [if_pos c_860] at hR
          refine lv_iinc (v := (k + (-1))) (lv' := [(9, .int (k + (-1))), (0, .ref h0), (1, .int x), (2, .int y1), (3, .int y2), (4, .int y3), (5, .int y4), (6, .int y5), (7, .int y6), (8, .int (1800 * x)), (10, .int f)]) hx hb dX9_put_184 hl (k := 9) rfl rfl (by decide) rfl (fun ls hl => ?_)
          refine lv_goto (tgt := 110) hx hb dX9_put_187 (by decide) ?_
          have v_863 : 0 ≤ x.toInt := by
            first | exact hx0 | assumption
          have v_864 : x.toInt ≤ 1 := by
            first | exact hx1 | assumption
          have v_865 : ((k + (-1))).toInt ≤ (ct x.toNatClampNeg).toInt := by
            have k_866 : (6 : Int32).toInt = 6 := by decide
            have q_867 := i_le c_860
            try have hq7 := hct x.toNatClampNeg (cl_lt (by omega) (by omega))
            have k_868 : ((-1) : Int32).toInt = -1 := by decide
            have t_869 := ti_add (a := k) (b := (-1)) (by omega) (by omega)
            try generalize Int32.toInt (ct x.toNatClampNeg) = z0 at *
            try generalize Int32.toInt (k + (-1)) = z1 at *
            try generalize Int32.toInt ((-1) : Int32) = z2 at *
            try generalize Int32.toInt (6 : Int32) = z3 at *
            try generalize Int32.toInt f = z4 at *
            try generalize Int32.toInt k = z5 at *
            try generalize Int32.toInt x = z6 at *
            omega
          have v_870 : (ct x.toNatClampNeg).toInt ≤ 299 := by
            first | exact hc9 | assumption
          have v_871 : 0 ≤ ((k + (-1))).toInt := by
            have k_872 : (6 : Int32).toInt = 6 := by decide
            have q_873 := i_le c_860
            try have hq7 := hct x.toNatClampNeg (cl_lt (by omega) (by omega))
            have k_874 : ((-1) : Int32).toInt = -1 := by decide
            have t_875 := ti_add (a := k) (b := (-1)) (by omega) (by omega)
            try generalize Int32.toInt (ct x.toNatClampNeg) = z0 at *
            try generalize Int32.toInt (k + (-1)) = z1 at *
            try generalize Int32.toInt ((-1) : Int32) = z2 at *
            try generalize Int32.toInt (6 : Int32) = z3 at *
            try generalize Int32.toInt f = z4 at *
            try generalize Int32.toInt k = z5 at *
            try generalize Int32.toInt x = z6 at *
            omega
          have v_876 : 8 * ((k + (-1))).toInt + 7 < ((n : Nat) : Int) := by
            have k_877 : (6 : Int32).toInt = 6 := by decide
            have q_878 := i_le c_860
            try have hq7 := hct x.toNatClampNeg (cl_lt (by omega) (by omega))
            have k_879 : ((-1) : Int32).toInt = -1 := by decide
            have t_880 := ti_add (a := k) (b := (-1)) (by omega) (by omega)
            try generalize Int32.toInt (ct x.toNatClampNeg) = z0 at *
            try generalize Int32.toInt (k + (-1)) = z1 at *
            try generalize Int32.toInt ((-1) : Int32) = z2 at *
            try generalize Int32.toInt (6 : Int32) = z3 at *
            try generalize Int32.toInt f = z4 at *
            try generalize Int32.toInt k = z5 at *
            try generalize Int32.toInt x = z6 at *
            omega
          exact ih_110 ((k + (-1))) (0) (rz) _ _ ls hR v_863 v_864 v_865 v_870 v_871 v_876 hP hD hS (lv_sub hl [1, 2, 3, 4, 5, 6, 7, 8, 9, 0] rfl)
        · rw [if_neg c_860] at hR
          refine lv_aload_n hx hb dX9_put_144 rfl (lv_at hl 0 rfl) ?_
          refine va_get (D := (dC, dI)) (ci := 9) (v := .ref a0) (C := RX9) (T := TX9) (N := 17) hx hb hts inc_X9_put_9 hown hG.1 hP 0 rfl rfl 1 (by decide) (hts (.fieldLink RX9 13 "MappingDeskModel" "rows" "[I") (by decide +kernel)) (fun _ h9 => h9) rfl dX9_put_145 ?_
          refine lv_iload hx hb dX9_put_148 (lv_at hl 8 rfl) ?_
          refine lv_bipush (v := 6) hx hb dX9_put_150 (by decide) ?_
          refine lv_iload hx hb dX9_put_152 (lv_at hl 9 rfl) ?_
          refine lv_imul hx hb dX9_put_154 ?_
          refine lv_iadd hx hb dX9_put_155 ?_
          refine lv_iload hx hb dX9_put_156 (lv_at hl 10 rfl) ?_
          refine lv_iadd hx hb dX9_put_158 ?_
          refine lv_aload_n hx hb dX9_put_159 rfl (lv_at hl 0 rfl) ?_
          refine va_get (D := (dC, dI)) (ci := 9) (v := .ref a0) (C := RX9) (T := TX9) (N := 17) hx hb hts inc_X9_put_9 hown hG.1 hP 0 rfl rfl 1 (by decide) (hts (.fieldLink RX9 13 "MappingDeskModel" "rows" "[I") (by decide +kernel)) (fun _ h9 => h9) rfl dX9_put_160 ?_
          refine lv_iload hx hb dX9_put_163 (lv_at hl 8 rfl) ?_
          refine lv_bipush (v := 6) hx hb dX9_put_165 (by decide) ?_
          refine lv_iload hx hb dX9_put_167 (lv_at hl 9 rfl) ?_
          refine lv_iconst (v := 1) hx hb dX9_put_169 (by decide) ?_
          refine lv_isub hx hb dX9_put_170 ?_
          refine lv_imul hx hb dX9_put_171 ?_
          refine lv_iadd hx hb dX9_put_172 ?_
          refine lv_iload hx hb dX9_put_173 (lv_at hl 10 rfl) ?_
          refine lv_iadd hx hb dX9_put_175 ?_
          have b_881 : vp_in (((1800 * x) + (6 * (k - 1))) + f) 3600 := by
            have k_882 : (6 : Int32).toInt = 6 := by decide
            have q_883 := i_nle c_860
            try have hq7 := hct x.toNatClampNeg (cl_lt (by omega) (by omega))
            have k_884 : (1800 : Int32).toInt = 1800 := by decide
            have t_885 : ((1800 * x)).toInt = 1800 * (x).toInt := by
              have z := ti_mul (a := 1800) (b := x) (by rw [show (1800 : Int32).toInt = 1800 from by decide]; omega) (by rw [show (1800 : Int32).toInt = 1800 from by decide]; omega)
              rw [z, show (1800 : Int32).toInt = 1800 from by decide]
            have k_886 : (1 : Int32).toInt = 1 := by decide
            have t_887 := ti_sub (a := k) (b := 1) (by omega) (by omega)
            have t_888 : ((6 * (k - 1))).toInt = 6 * ((k - 1)).toInt := by
              have z := ti_mul (a := 6) (b := (k - 1)) (by rw [show (6 : Int32).toInt = 6 from by decide]; omega) (by rw [show (6 : Int32).toInt = 6 from by decide]; omega)
              rw [z, show (6 : Int32).toInt = 6 from by decide]
            have t_889 := ti_add (a := (1800 * x)) (b := (6 * (k - 1))) (by omega) (by omega)
            have t_890 := ti_add (a := ((1800 * x) + (6 * (k - 1)))) (b := f) (by omega) (by omega)
            refine vin ?_ ?_
            all_goals (try generalize Int32.toInt (((1800 * x) + (6 * (k - 1))) + f) = z0 at *; try generalize Int32.toInt ((1800 * x) + (6 * (k - 1))) = z1 at *; try generalize Int32.toInt (ct x.toNatClampNeg) = z2 at *; try generalize Int32.toInt (6 * (k - 1)) = z3 at *; try generalize Int32.toInt (1800 * x) = z4 at *; try generalize Int32.toInt (k - 1) = z5 at *; try generalize Int32.toInt (1800 : Int32) = z6 at *; try generalize Int32.toInt (1 : Int32) = z7 at *; try generalize Int32.toInt (6 : Int32) = z8 at *; try generalize Int32.toInt f = z9 at *; try generalize Int32.toInt k = z10 at *; try generalize Int32.toInt x = z11 at *; omega)
          refine va_iald hx hb hG.1 hP 1 2 rfl rfl b_881 dX9_put_176 ?_
          have b_893 : vp_in (((1800 * x) + (6 * k)) + f) 3600 := by
            have k_894 : (6 : Int32).toInt = 6 := by decide
            have q_895 := i_nle c_860
            try have hq7 := hct x.toNatClampNeg (cl_lt (by omega) (by omega))
            have k_896 : (1800 : Int32).toInt = 1800 := by decide
            have t_897 : ((1800 * x)).toInt = 1800 * (x).toInt := by
              have z := ti_mul (a := 1800) (b := x) (by rw [show (1800 : Int32).toInt = 1800 from by decide]; omega) (by rw [show (1800 : Int32).toInt = 1800 from by decide]; omega)
              rw [z, show (1800 : Int32).toInt = 1800 from by decide]
            have t_898 : ((6 * k)).toInt = 6 * (k).toInt := by
              have z := ti_mul (a := 6) (b := k) (by rw [show (6 : Int32).toInt = 6 from by decide]; omega) (by rw [show (6 : Int32).toInt = 6 from by decide]; omega)
              rw [z, show (6 : Int32).toInt = 6 from by decide]
            have t_899 := ti_add (a := (1800 * x)) (b := (6 * k)) (by omega) (by omega)
            have t_900 := ti_add (a := ((1800 * x) + (6 * k))) (b := f) (by omega) (by omega)
            refine vin ?_ ?_
            all_goals (try generalize Int32.toInt (((1800 * x) + (6 * k)) + f) = z0 at *; try generalize Int32.toInt ((1800 * x) + (6 * k)) = z1 at *; try generalize Int32.toInt (ct x.toNatClampNeg) = z2 at *; try generalize Int32.toInt (1800 * x) = z3 at *; try generalize Int32.toInt (6 * k) = z4 at *; try generalize Int32.toInt (1800 : Int32) = z5 at *; try generalize Int32.toInt (6 : Int32) = z6 at *; try generalize Int32.toInt f = z7 at *; try generalize Int32.toInt k = z8 at *; try generalize Int32.toInt x = z9 at *; omega)
          refine va_iast hx hb hG.1 hP hD hS 1 2 rfl rfl b_893 dX9_put_177 (fun H locs hP hD hS => ?_)
          have hP : va_P (dC, dI) vwCl [(h0, .inr (9, [.int 0, .ref a0, .ref a1, .ref a2, .int dc, .ref a3, .int tl, .ref a4, .int xl, .int fo, .int fa, .ref a5, .int mn, .ref a6, .int ft, .ref a7, .int wl])), (a0, .inl (cI, 3600, .inl (upd rz (((1800 * x) + (6 * k)) + f).toNatClampNeg (rz (((1800 * x) + (6 * (k - 1))) + f).toNatClampNeg)))), (a1, .inl (cI, 2, .inl ct))] H := hP
          have hD : va_D A [(h0, .inr (9, [.int 0, .ref a0, .ref a1, .ref a2, .int dc, .ref a3, .int tl, .ref a4, .int xl, .int fo, .int fa, .ref a5, .int mn, .ref a6, .int ft, .ref a7, .int wl])), (a0, .inl (cI, 3600, .inl (upd rz (((1800 * x) + (6 * k)) + f).toNatClampNeg (rz (((1800 * x) + (6 * (k - 1))) + f).toNatClampNeg)))), (a1, .inl (cI, 2, .inl ct))] := hD
          refine lv_iinc (v := (f + 1)) (lv' := [(10, .int (f + 1)), (0, .ref h0), (1, .int x), (2, .int y1), (3, .int y2), (4, .int y3), (5, .int y4), (6, .int y5), (7, .int y6), (8, .int (1800 * x)), (9, .int k)]) hx hb dX9_put_178 hl (k := 10) rfl rfl (by decide) rfl (fun ls hl => ?_)
          refine lv_goto (tgt := 137) hx hb dX9_put_181 (by decide) ?_
          have v_905 : 0 ≤ x.toInt := by
            first | exact hx0 | assumption
          have v_906 : x.toInt ≤ 1 := by
            first | exact hx1 | assumption
          have v_907 : k.toInt ≤ (ct x.toNatClampNeg).toInt := by
            have k_908 : (6 : Int32).toInt = 6 := by decide
            have q_909 := i_nle c_860
            try have hq7 := hct x.toNatClampNeg (cl_lt (by omega) (by omega))
            try generalize Int32.toInt (ct x.toNatClampNeg) = z0 at *
            try generalize Int32.toInt (6 : Int32) = z1 at *
            try generalize Int32.toInt f = z2 at *
            try generalize Int32.toInt k = z3 at *
            try generalize Int32.toInt x = z4 at *
            omega
          have v_910 : (ct x.toNatClampNeg).toInt ≤ 299 := by
            first | exact hc9 | assumption
          have v_911 : 1 ≤ k.toInt := by
            have k_912 : (6 : Int32).toInt = 6 := by decide
            have q_913 := i_nle c_860
            try have hq7 := hct x.toNatClampNeg (cl_lt (by omega) (by omega))
            try generalize Int32.toInt (ct x.toNatClampNeg) = z0 at *
            try generalize Int32.toInt (6 : Int32) = z1 at *
            try generalize Int32.toInt f = z2 at *
            try generalize Int32.toInt k = z3 at *
            try generalize Int32.toInt x = z4 at *
            omega
          have v_914 : 0 ≤ ((f + 1)).toInt := by
            have k_915 : (6 : Int32).toInt = 6 := by decide
            have q_916 := i_nle c_860
            try have hq7 := hct x.toNatClampNeg (cl_lt (by omega) (by omega))
            have k_917 : (1 : Int32).toInt = 1 := by decide
            have t_918 := ti_add (a := f) (b := 1) (by omega) (by omega)
            try generalize Int32.toInt (ct x.toNatClampNeg) = z0 at *
            try generalize Int32.toInt (f + 1) = z1 at *
            try generalize Int32.toInt (1 : Int32) = z2 at *
            try generalize Int32.toInt (6 : Int32) = z3 at *
            try generalize Int32.toInt f = z4 at *
            try generalize Int32.toInt k = z5 at *
            try generalize Int32.toInt x = z6 at *
            omega
          have v_919 : ((f + 1)).toInt ≤ 6 := by
            have k_920 : (6 : Int32).toInt = 6 := by decide
            have q_921 := i_nle c_860
            try have hq7 := hct x.toNatClampNeg (cl_lt (by omega) (by omega))
            have k_922 : (1 : Int32).toInt = 1 := by decide
            have t_923 := ti_add (a := f) (b := 1) (by omega) (by omega)
            try generalize Int32.toInt (ct x.toNatClampNeg) = z0 at *
            try generalize Int32.toInt (f + 1) = z1 at *
            try generalize Int32.toInt (1 : Int32) = z2 at *
            try generalize Int32.toInt (6 : Int32) = z3 at *
            try generalize Int32.toInt f = z4 at *
            try generalize Int32.toInt k = z5 at *
            try generalize Int32.toInt x = z6 at *
            omega
          have v_924 : 8 * k.toInt + 6 - ((f + 1)).toInt < ((n : Nat) : Int) := by
            have k_925 : (6 : Int32).toInt = 6 := by decide
            have q_926 := i_nle c_860
            try have hq7 := hct x.toNatClampNeg (cl_lt (by omega) (by omega))
            have k_927 : (1 : Int32).toInt = 1 := by decide
            have t_928 := ti_add (a := f) (b := 1) (by omega) (by omega)
            try generalize Int32.toInt (ct x.toNatClampNeg) = z0 at *
            try generalize Int32.toInt (f + 1) = z1 at *
            try generalize Int32.toInt (1 : Int32) = z2 at *
            try generalize Int32.toInt (6 : Int32) = z3 at *
            try generalize Int32.toInt f = z4 at *
            try generalize Int32.toInt k = z5 at *
            try generalize Int32.toInt x = z6 at *
            omega
          exact ih_137 (k) ((f + 1)) ((upd rz (((1800 * x) + (6 * k)) + f).toNatClampNeg (rz (((1800 * x) + (6 * (k - 1))) + f).toNatClampNeg))) _ _ ls hR v_905 v_906 v_907 v_910 v_911 v_914 v_919 v_924 hP hD hS (lv_sub hl [1, 2, 3, 4, 5, 6, 7, 8, 9, 10, 0] rfl)
  have loop_110 := fun n => (loops_A n).1
  have loop_137 := fun n => (loops_A n).2
  refine lv_aload_n hx hb dX9_put_0 rfl (lv_at hl 0 rfl) ?_
  refine lv_iconst (v := 0) hx hb dX9_put_1 (by decide) ?_
  refine va_put (D := (dC, dI)) (ci := 9) (v := .int 0) (ty := .int) (C := RX9) (T := TX9) (N := 17) hx hb hts inc_X9_put_9 tyX9 tyX9_ok nmX9 hown hG.1 hP hD hS 0 rfl rfl 0 (by decide) (hts (.fieldLink RX9 7 "MappingDeskModel" "thrownCode" "I") (by decide +kernel)) (fun _ h9 => h9) rfl (by decide +kernel) rfl rfl (Nat.le_of_ble_eq_true rfl) dX9_put_2 (fun H locs hP hD hS => ?_)
  have hP : va_P (dC, dI) vwCl [(h0, .inr (9, [.int 0, .ref a0, .ref a1, .ref a2, .int dc, .ref a3, .int tl, .ref a4, .int xl, .int fo, .int fa, .ref a5, .int mn, .ref a6, .int ft, .ref a7, .int wl])), (a0, .inl (cI, 3600, .inl rw)), (a1, .inl (cI, 2, .inl ct))] H := hP
  have hD : va_D A [(h0, .inr (9, [.int 0, .ref a0, .ref a1, .ref a2, .int dc, .ref a3, .int tl, .ref a4, .int xl, .int fo, .int fa, .ref a5, .int mn, .ref a6, .int ft, .ref a7, .int wl])), (a0, .inl (cI, 3600, .inl rw)), (a1, .inl (cI, 2, .inl ct))] := hD
  refine lv_iload_n hx hb dX9_put_5 rfl (lv_at hl 1 rfl) ?_
  refine lv_if_lt (tgt := 48) hx hb dX9_put_6 (by decide) (fun c_929 => ?_) (fun c_929 => ?_)
  · rw [if_pos c_929] at hR
    refine lv_iconst (v := (-1)) hx hb dX9_put_48 (by decide) ?_
    subst hR
    exact W.iret (v := (-1)) hx hb hr (fun t ht hW => ⟨⟨(-1), (), rfl, rfl, by rw [ht]; exact hP, hD⟩, hS.F ht⟩) hS.2.2 dX9_put_49
  · rw [if_neg c_929] at hR
    refine lv_iload_n hx hb dX9_put_9 rfl (lv_at hl 1 rfl) ?_
    refine lv_iconst (v := 1) hx hb dX9_put_10 (by decide) ?_
    refine lv_icmp_gt (tgt := 48) hx hb dX9_put_11 (by decide) (fun c_930 => ?_) (fun c_930 => ?_)
    · rw [if_pos c_930] at hR
      refine lv_iconst (v := (-1)) hx hb dX9_put_48 (by decide) ?_
      subst hR
      exact W.iret (v := (-1)) hx hb hr (fun t ht hW => ⟨⟨(-1), (), rfl, rfl, by rw [ht]; exact hP, hD⟩, hS.F ht⟩) hS.2.2 dX9_put_49
    · rw [if_neg c_930] at hR
      refine lv_iload_n hx hb dX9_put_14 rfl (lv_at hl 2 rfl) ?_
      refine lv_i2l hx hb dX9_put_15 rfl ?_
      refine lv_ldc2 (v := 199) hx hb hown (hts (.constantLong RX9 83 199) (by decide +kernel)) dX9_put_16 ?_
      have hPc := hP.sub (ws' := []) [] rfl
      have hDc := hD.sub (ws' := []) [] (by decide) rfl
      refine vp_callSi (va_Run.run (va_runS (As := [.long ((y1 : Int32).toInt64), .long 199]) (rest := []) ⟨hx, hb, hml, hown, hts⟩ (c_X9_within l dC dI cB cC cI cJ H.size ((y1 : Int32).toInt64) 199 ) (va_cwS 2 hts gX9_put_X9_within rfl rfl rfl (by decide +kernel) ⟨(Nat.le_of_ble_eq_true rfl), (Nat.le_of_ble_eq_true rfl)⟩) ⟨cP_blind, cP_pre hPc hG hDc⟩ rfl rfl hl.1 rfl (lv_room (Nat.le_of_ble_eq_true rfl)) dX9_put_19 ⟨Nat.le_of_ble_eq_true rfl, Nat.le_of_ble_eq_true rfl⟩)) (fun r_931 hr_931 => ?_)
      rw [bnd_eq hr_931.symm] at hR
      refine lv_if_eq (tgt := 48) hx hb dX9_put_22 (by decide) (fun c_932 => ?_) (fun c_932 => ?_)
      · rw [if_pos c_932] at hR
        refine lv_iconst (v := (-1)) hx hb dX9_put_48 (by decide) ?_
        subst hR
        exact W.iret (v := (-1)) hx hb hr (fun t ht hW => ⟨⟨(-1), (), rfl, rfl, by rw [ht]; exact hP, hD⟩, hS.F ht⟩) hS.2.2 dX9_put_49
      · rw [if_neg c_932] at hR
        refine lv_iload_n hx hb dX9_put_25 rfl (lv_at hl 3 rfl) ?_
        refine lv_i2l hx hb dX9_put_26 rfl ?_
        refine lv_ldc2 (v := 999999) hx hb hown (hts (.constantLong RX9 75 999999) (by decide +kernel)) dX9_put_27 ?_
        have hPc := hP.sub (ws' := []) [] rfl
        have hDc := hD.sub (ws' := []) [] (by decide) rfl
        refine vp_callSi (va_Run.run (va_runS (As := [.long ((y2 : Int32).toInt64), .long 999999]) (rest := []) ⟨hx, hb, hml, hown, hts⟩ (c_X9_within l dC dI cB cC cI cJ H.size ((y2 : Int32).toInt64) 999999 ) (va_cwS 2 hts gX9_put_X9_within rfl rfl rfl (by decide +kernel) ⟨(Nat.le_of_ble_eq_true rfl), (Nat.le_of_ble_eq_true rfl)⟩) ⟨cP_blind, cP_pre hPc hG hDc⟩ rfl rfl hl.1 rfl (lv_room (Nat.le_of_ble_eq_true rfl)) dX9_put_30 ⟨Nat.le_of_ble_eq_true rfl, Nat.le_of_ble_eq_true rfl⟩)) (fun r_933 hr_933 => ?_)
        rw [bnd_eq hr_933.symm] at hR
        refine lv_if_eq (tgt := 48) hx hb dX9_put_33 (by decide) (fun c_934 => ?_) (fun c_934 => ?_)
        · rw [if_pos c_934] at hR
          refine lv_iconst (v := (-1)) hx hb dX9_put_48 (by decide) ?_
          subst hR
          exact W.iret (v := (-1)) hx hb hr (fun t ht hW => ⟨⟨(-1), (), rfl, rfl, by rw [ht]; exact hP, hD⟩, hS.F ht⟩) hS.2.2 dX9_put_49
        · rw [if_neg c_934] at hR
          refine lv_aload_n hx hb dX9_put_36 rfl (lv_at hl 0 rfl) ?_
          refine va_get (D := (dC, dI)) (ci := 9) (v := .ref a1) (C := RX9) (T := TX9) (N := 17) hx hb hts inc_X9_put_9 hown hG.1 hP 0 rfl rfl 2 (by decide) (hts (.fieldLink RX9 17 "MappingDeskModel" "count" "[I") (by decide +kernel)) (fun _ h9 => h9) rfl dX9_put_37 ?_
          refine lv_iload_n hx hb dX9_put_40 rfl (lv_at hl 1 rfl) ?_
          have b_935 : vp_in x 2 := by
            have k_936 : (0 : Int32).toInt = 0 := by decide
            have q_937 := i_nlt c_929
            have k_938 : (1 : Int32).toInt = 1 := by decide
            have q_939 := i_nlt c_930
            have q_940 := i_ne c_932
            have q_941 := i_ne c_934
            try have hq7 := hct x.toNatClampNeg (cl_lt (by omega) (by omega))
            refine vin ?_ ?_
            all_goals (try generalize Int32.toInt (ct x.toNatClampNeg) = z0 at *; try generalize Int32.toInt r_931 = z1 at *; try generalize Int32.toInt r_933 = z2 at *; try generalize Int32.toInt (0 : Int32) = z3 at *; try generalize Int32.toInt (1 : Int32) = z4 at *; try generalize Int32.toInt x = z5 at *; omega)
          refine va_iald hx hb hG.1 hP 2 2 rfl rfl b_935 dX9_put_41 ?_
          refine lv_sipush (v := 300) hx hb dX9_put_42 (by decide) ?_
          refine lv_icmp_ne (tgt := 50) hx hb dX9_put_45 (by decide) (fun c_944 => ?_) (fun c_944 => ?_)
          · rw [if_neg c_944] at hR
            refine lv_iload hx hb dX9_put_50 (lv_at hl 4 rfl) ?_
            refine lv_if_lt (tgt := 95) hx hb dX9_put_52 (by decide) (fun c_945 => ?_) (fun c_945 => ?_)
            · rw [if_pos c_945] at hR
              refine lv_sipush (v := 1800) hx hb dX9_put_95 (by decide) ?_
              refine lv_iload_n hx hb dX9_put_98 rfl (lv_at hl 1 rfl) ?_
              refine lv_imul hx hb dX9_put_99 ?_
              refine lv_istore (lv' := [(8, .int (1800 * x)), (0, .ref h0), (1, .int x), (2, .int y1), (3, .int y2), (4, .int y3), (5, .int y4), (6, .int y5), (7, .int y6)]) hx hb dX9_put_100 hl (by decide) rfl (fun ls hl => ?_)
              refine lv_aload_n hx hb dX9_put_102 rfl (lv_at hl 1 rfl) ?_
              refine va_get (D := (dC, dI)) (ci := 9) (v := .ref a1) (C := RX9) (T := TX9) (N := 17) hx hb hts inc_X9_put_9 hown hG.1 hP 0 rfl rfl 2 (by decide) (hts (.fieldLink RX9 17 "MappingDeskModel" "count" "[I") (by decide +kernel)) (fun _ h9 => h9) rfl dX9_put_103 ?_
              refine lv_iload_n hx hb dX9_put_106 rfl (lv_at hl 2 rfl) ?_
              have b_946 : vp_in x 2 := by
                have k_947 : (0 : Int32).toInt = 0 := by decide
                have q_948 := i_nlt c_929
                have k_949 : (1 : Int32).toInt = 1 := by decide
                have q_950 := i_nlt c_930
                have q_951 := i_ne c_932
                have q_952 := i_ne c_934
                have k_953 : (300 : Int32).toInt = 300 := by decide
                have q_954 := i_ne c_944
                have q_955 := i_lt c_945
                try have hq7 := hct x.toNatClampNeg (cl_lt (by omega) (by omega))
                refine vin ?_ ?_
                all_goals (try generalize Int32.toInt (ct x.toNatClampNeg) = z0 at *; try generalize Int32.toInt r_931 = z1 at *; try generalize Int32.toInt r_933 = z2 at *; try generalize Int32.toInt (300 : Int32) = z3 at *; try generalize Int32.toInt y3 = z4 at *; try generalize Int32.toInt (0 : Int32) = z5 at *; try generalize Int32.toInt (1 : Int32) = z6 at *; try generalize Int32.toInt x = z7 at *; omega)
              refine va_iald hx hb hG.1 hP 2 2 rfl rfl b_946 dX9_put_107 ?_
              refine lv_istore (lv' := [(9, .int (ct x.toNatClampNeg)), (8, .int (1800 * x)), (0, .ref h0), (1, .int x), (2, .int y1), (3, .int y2), (4, .int y3), (5, .int y4), (6, .int y5), (7, .int y6)]) hx hb dX9_put_108 hl (by decide) rfl (fun ls hl => ?_)
              have v_967 : 0 ≤ x.toInt := by
                have k_968 : (0 : Int32).toInt = 0 := by decide
                have q_969 := i_nlt c_929
                have k_970 : (1 : Int32).toInt = 1 := by decide
                have q_971 := i_nlt c_930
                have q_972 := i_ne c_932
                have q_973 := i_ne c_934
                have k_974 : (300 : Int32).toInt = 300 := by decide
                have q_975 := i_ne c_944
                have q_976 := i_lt c_945
                try have hq7 := hct x.toNatClampNeg (cl_lt (by omega) (by omega))
                try generalize Int32.toInt (ct x.toNatClampNeg) = z0 at *
                try generalize Int32.toInt r_931 = z1 at *
                try generalize Int32.toInt r_933 = z2 at *
                try generalize Int32.toInt (300 : Int32) = z3 at *
                try generalize Int32.toInt y3 = z4 at *
                try generalize Int32.toInt (0 : Int32) = z5 at *
                try generalize Int32.toInt (1 : Int32) = z6 at *
                try generalize Int32.toInt x = z7 at *
                omega
              have v_977 : x.toInt ≤ 1 := by
                have k_978 : (0 : Int32).toInt = 0 := by decide
                have q_979 := i_nlt c_929
                have k_980 : (1 : Int32).toInt = 1 := by decide
                have q_981 := i_nlt c_930
                have q_982 := i_ne c_932
                have q_983 := i_ne c_934
                have k_984 : (300 : Int32).toInt = 300 := by decide
                have q_985 := i_ne c_944
                have q_986 := i_lt c_945
                try have hq7 := hct x.toNatClampNeg (cl_lt (by omega) (by omega))
                try generalize Int32.toInt (ct x.toNatClampNeg) = z0 at *
                try generalize Int32.toInt r_931 = z1 at *
                try generalize Int32.toInt r_933 = z2 at *
                try generalize Int32.toInt (300 : Int32) = z3 at *
                try generalize Int32.toInt y3 = z4 at *
                try generalize Int32.toInt (0 : Int32) = z5 at *
                try generalize Int32.toInt (1 : Int32) = z6 at *
                try generalize Int32.toInt x = z7 at *
                omega
              have v_987 : ((ct x.toNatClampNeg)).toInt ≤ (ct x.toNatClampNeg).toInt := by
                have k_988 : (0 : Int32).toInt = 0 := by decide
                have q_989 := i_nlt c_929
                have k_990 : (1 : Int32).toInt = 1 := by decide
                have q_991 := i_nlt c_930
                have q_992 := i_ne c_932
                have q_993 := i_ne c_934
                have k_994 : (300 : Int32).toInt = 300 := by decide
                have q_995 := i_ne c_944
                have q_996 := i_lt c_945
                try have hq7 := hct x.toNatClampNeg (cl_lt (by omega) (by omega))
                try generalize Int32.toInt (ct x.toNatClampNeg) = z0 at *
                try generalize Int32.toInt r_931 = z1 at *
                try generalize Int32.toInt r_933 = z2 at *
                try generalize Int32.toInt (300 : Int32) = z3 at *
                try generalize Int32.toInt y3 = z4 at *
                try generalize Int32.toInt (0 : Int32) = z5 at *
                try generalize Int32.toInt (1 : Int32) = z6 at *
                try generalize Int32.toInt x = z7 at *
                omega
              have v_997 : (ct x.toNatClampNeg).toInt ≤ 299 := by
                have k_998 : (0 : Int32).toInt = 0 := by decide
                have q_999 := i_nlt c_929
                have k_1000 : (1 : Int32).toInt = 1 := by decide
                have q_1001 := i_nlt c_930
                have q_1002 := i_ne c_932
                have q_1003 := i_ne c_934
                have k_1004 : (300 : Int32).toInt = 300 := by decide
                have q_1005 := i_ne c_944
                have q_1006 := i_lt c_945
                try have hq7 := hct x.toNatClampNeg (cl_lt (by omega) (by omega))
                try generalize Int32.toInt (ct x.toNatClampNeg) = z0 at *
                try generalize Int32.toInt r_931 = z1 at *
                try generalize Int32.toInt r_933 = z2 at *
                try generalize Int32.toInt (300 : Int32) = z3 at *
                try generalize Int32.toInt y3 = z4 at *
                try generalize Int32.toInt (0 : Int32) = z5 at *
                try generalize Int32.toInt (1 : Int32) = z6 at *
                try generalize Int32.toInt x = z7 at *
                omega
              have v_1007 : 0 ≤ ((ct x.toNatClampNeg)).toInt := by
                have k_1008 : (0 : Int32).toInt = 0 := by decide
                have q_1009 := i_nlt c_929
                have k_1010 : (1 : Int32).toInt = 1 := by decide
                have q_1011 := i_nlt c_930
                have q_1012 := i_ne c_932
                have q_1013 := i_ne c_934
                have k_1014 : (300 : Int32).toInt = 300 := by decide
                have q_1015 := i_ne c_944
                have q_1016 := i_lt c_945
                try have hq7 := hct x.toNatClampNeg (cl_lt (by omega) (by omega))
                try generalize Int32.toInt (ct x.toNatClampNeg) = z0 at *
                try generalize Int32.toInt r_931 = z1 at *
                try generalize Int32.toInt r_933 = z2 at *
                try generalize Int32.toInt (300 : Int32) = z3 at *
                try generalize Int32.toInt y3 = z4 at *
                try generalize Int32.toInt (0 : Int32) = z5 at *
                try generalize Int32.toInt (1 : Int32) = z6 at *
                try generalize Int32.toInt x = z7 at *
                omega
              have v_1017 : 8 * ((ct x.toNatClampNeg)).toInt + 7 < ((2500 : Nat) : Int) := by
                have k_1018 : (0 : Int32).toInt = 0 := by decide
                have q_1019 := i_nlt c_929
                have k_1020 : (1 : Int32).toInt = 1 := by decide
                have q_1021 := i_nlt c_930
                have q_1022 := i_ne c_932
                have q_1023 := i_ne c_934
                have k_1024 : (300 : Int32).toInt = 300 := by decide
                have q_1025 := i_ne c_944
                have q_1026 := i_lt c_945
                try have hq7 := hct x.toNatClampNeg (cl_lt (by omega) (by omega))
                try generalize Int32.toInt (ct x.toNatClampNeg) = z0 at *
                try generalize Int32.toInt r_931 = z1 at *
                try generalize Int32.toInt r_933 = z2 at *
                try generalize Int32.toInt (300 : Int32) = z3 at *
                try generalize Int32.toInt y3 = z4 at *
                try generalize Int32.toInt (0 : Int32) = z5 at *
                try generalize Int32.toInt (1 : Int32) = z6 at *
                try generalize Int32.toInt x = z7 at *
                omega
              exact loop_110 2500 ((ct x.toNatClampNeg)) (0) (rw) _ _ ls hR v_967 v_977 v_987 v_997 v_1007 v_1017 hP hD hS (lv_sub hl [2, 3, 4, 5, 6, 7, 8, 9, 1, 0] rfl)
            · rw [if_neg c_945] at hR
              refine lv_iload hx hb dX9_put_55 (lv_at hl 4 rfl) ?_
              refine lv_bipush (v := 99) hx hb dX9_put_57 (by decide) ?_
              refine lv_icmp_gt (tgt := 93) hx hb dX9_put_59 (by decide) (fun c_1027 => ?_) (fun c_1027 => ?_)
              · rw [if_pos c_1027] at hR
                refine lv_iconst (v := (-1)) hx hb dX9_put_93 (by decide) ?_
                subst hR
                exact W.iret (v := (-1)) hx hb hr (fun t ht hW => ⟨⟨(-1), (), rfl, rfl, by rw [ht]; exact hP, hD⟩, hS.F ht⟩) hS.2.2 dX9_put_94
              · rw [if_neg c_1027] at hR
                refine lv_iload hx hb dX9_put_62 (lv_at hl 5 rfl) ?_
                refine lv_i2l hx hb dX9_put_64 rfl ?_
                refine lv_ldc2 (v := 999999) hx hb hown (hts (.constantLong RX9 75 999999) (by decide +kernel)) dX9_put_65 ?_
                have hPc := hP.sub (ws' := []) [] rfl
                have hDc := hD.sub (ws' := []) [] (by decide) rfl
                refine vp_callSi (va_Run.run (va_runS (As := [.long ((y4 : Int32).toInt64), .long 999999]) (rest := []) ⟨hx, hb, hml, hown, hts⟩ (c_X9_within l dC dI cB cC cI cJ H.size ((y4 : Int32).toInt64) 999999 ) (va_cwS 2 hts gX9_put_X9_within rfl rfl rfl (by decide +kernel) ⟨(Nat.le_of_ble_eq_true rfl), (Nat.le_of_ble_eq_true rfl)⟩) ⟨cP_blind, cP_pre hPc hG hDc⟩ rfl rfl hl.1 rfl (lv_room (Nat.le_of_ble_eq_true rfl)) dX9_put_68 ⟨Nat.le_of_ble_eq_true rfl, Nat.le_of_ble_eq_true rfl⟩)) (fun r_1028 hr_1028 => ?_)
                rw [bnd_eq hr_1028.symm] at hR
                refine lv_if_eq (tgt := 93) hx hb dX9_put_71 (by decide) (fun c_1029 => ?_) (fun c_1029 => ?_)
                · rw [if_pos c_1029] at hR
                  refine lv_iconst (v := (-1)) hx hb dX9_put_93 (by decide) ?_
                  subst hR
                  exact W.iret (v := (-1)) hx hb hr (fun t ht hW => ⟨⟨(-1), (), rfl, rfl, by rw [ht]; exact hP, hD⟩, hS.F ht⟩) hS.2.2 dX9_put_94
                · rw [if_neg c_1029] at hR
                  refine lv_iload hx hb dX9_put_74 (lv_at hl 6 rfl) ?_
                  refine lv_i2l hx hb dX9_put_76 rfl ?_
                  refine lv_ldc2 (v := 999999) hx hb hown (hts (.constantLong RX9 75 999999) (by decide +kernel)) dX9_put_77 ?_
                  have hPc := hP.sub (ws' := []) [] rfl
                  have hDc := hD.sub (ws' := []) [] (by decide) rfl
                  refine vp_callSi (va_Run.run (va_runS (As := [.long ((y5 : Int32).toInt64), .long 999999]) (rest := []) ⟨hx, hb, hml, hown, hts⟩ (c_X9_within l dC dI cB cC cI cJ H.size ((y5 : Int32).toInt64) 999999 ) (va_cwS 2 hts gX9_put_X9_within rfl rfl rfl (by decide +kernel) ⟨(Nat.le_of_ble_eq_true rfl), (Nat.le_of_ble_eq_true rfl)⟩) ⟨cP_blind, cP_pre hPc hG hDc⟩ rfl rfl hl.1 rfl (lv_room (Nat.le_of_ble_eq_true rfl)) dX9_put_80 ⟨Nat.le_of_ble_eq_true rfl, Nat.le_of_ble_eq_true rfl⟩)) (fun r_1030 hr_1030 => ?_)
                  rw [bnd_eq hr_1030.symm] at hR
                  refine lv_if_eq (tgt := 93) hx hb dX9_put_83 (by decide) (fun c_1031 => ?_) (fun c_1031 => ?_)
                  · rw [if_pos c_1031] at hR
                    refine lv_iconst (v := (-1)) hx hb dX9_put_93 (by decide) ?_
                    subst hR
                    exact W.iret (v := (-1)) hx hb hr (fun t ht hW => ⟨⟨(-1), (), rfl, rfl, by rw [ht]; exact hP, hD⟩, hS.F ht⟩) hS.2.2 dX9_put_94
                  · rw [if_neg c_1031] at hR
                    refine lv_iload hx hb dX9_put_86 (lv_at hl 7 rfl) ?_
                    refine lv_bipush (v := 99) hx hb dX9_put_88 (by decide) ?_
                    refine lv_icmp_le (tgt := 95) hx hb dX9_put_90 (by decide) (fun c_1032 => ?_) (fun c_1032 => ?_)
                    · rw [if_pos c_1032] at hR
                      refine lv_sipush (v := 1800) hx hb dX9_put_95 (by decide) ?_
                      refine lv_iload_n hx hb dX9_put_98 rfl (lv_at hl 1 rfl) ?_
                      refine lv_imul hx hb dX9_put_99 ?_
                      refine lv_istore (lv' := [(8, .int (1800 * x)), (0, .ref h0), (1, .int x), (2, .int y1), (3, .int y2), (4, .int y3), (5, .int y4), (6, .int y5), (7, .int y6)]) hx hb dX9_put_100 hl (by decide) rfl (fun ls hl => ?_)
                      refine lv_aload_n hx hb dX9_put_102 rfl (lv_at hl 1 rfl) ?_
                      refine va_get (D := (dC, dI)) (ci := 9) (v := .ref a1) (C := RX9) (T := TX9) (N := 17) hx hb hts inc_X9_put_9 hown hG.1 hP 0 rfl rfl 2 (by decide) (hts (.fieldLink RX9 17 "MappingDeskModel" "count" "[I") (by decide +kernel)) (fun _ h9 => h9) rfl dX9_put_103 ?_
                      refine lv_iload_n hx hb dX9_put_106 rfl (lv_at hl 2 rfl) ?_
                      have b_1033 : vp_in x 2 := by
                        have k_1034 : (0 : Int32).toInt = 0 := by decide
                        have q_1035 := i_nlt c_929
                        have k_1036 : (1 : Int32).toInt = 1 := by decide
                        have q_1037 := i_nlt c_930
                        have q_1038 := i_ne c_932
                        have q_1039 := i_ne c_934
                        have k_1040 : (300 : Int32).toInt = 300 := by decide
                        have q_1041 := i_ne c_944
                        have q_1042 := i_nlt c_945
                        have k_1043 : (99 : Int32).toInt = 99 := by decide
                        have q_1044 := i_nlt c_1027
                        have q_1045 := i_ne c_1029
                        have q_1046 := i_ne c_1031
                        have q_1047 := i_le c_1032
                        try have hq7 := hct x.toNatClampNeg (cl_lt (by omega) (by omega))
                        refine vin ?_ ?_
                        all_goals (try generalize Int32.toInt (ct x.toNatClampNeg) = z0 at *; try generalize Int32.toInt r_1028 = z1 at *; try generalize Int32.toInt r_1030 = z2 at *; try generalize Int32.toInt r_931 = z3 at *; try generalize Int32.toInt r_933 = z4 at *; try generalize Int32.toInt (300 : Int32) = z5 at *; try generalize Int32.toInt (99 : Int32) = z6 at *; try generalize Int32.toInt y3 = z7 at *; try generalize Int32.toInt y6 = z8 at *; try generalize Int32.toInt (0 : Int32) = z9 at *; try generalize Int32.toInt (1 : Int32) = z10 at *; try generalize Int32.toInt x = z11 at *; omega)
                      refine va_iald hx hb hG.1 hP 2 2 rfl rfl b_1033 dX9_put_107 ?_
                      refine lv_istore (lv' := [(9, .int (ct x.toNatClampNeg)), (8, .int (1800 * x)), (0, .ref h0), (1, .int x), (2, .int y1), (3, .int y2), (4, .int y3), (5, .int y4), (6, .int y5), (7, .int y6)]) hx hb dX9_put_108 hl (by decide) rfl (fun ls hl => ?_)
                      have v_1064 : 0 ≤ x.toInt := by
                        have k_1065 : (0 : Int32).toInt = 0 := by decide
                        have q_1066 := i_nlt c_929
                        have k_1067 : (1 : Int32).toInt = 1 := by decide
                        have q_1068 := i_nlt c_930
                        have q_1069 := i_ne c_932
                        have q_1070 := i_ne c_934
                        have k_1071 : (300 : Int32).toInt = 300 := by decide
                        have q_1072 := i_ne c_944
                        have q_1073 := i_nlt c_945
                        have k_1074 : (99 : Int32).toInt = 99 := by decide
                        have q_1075 := i_nlt c_1027
                        have q_1076 := i_ne c_1029
                        have q_1077 := i_ne c_1031
                        have q_1078 := i_le c_1032
                        try have hq7 := hct x.toNatClampNeg (cl_lt (by omega) (by omega))
                        try generalize Int32.toInt (ct x.toNatClampNeg) = z0 at *
                        try generalize Int32.toInt r_1028 = z1 at *
                        try generalize Int32.toInt r_1030 = z2 at *
                        try generalize Int32.toInt r_931 = z3 at *
                        try generalize Int32.toInt r_933 = z4 at *
                        try generalize Int32.toInt (300 : Int32) = z5 at *
                        try generalize Int32.toInt (99 : Int32) = z6 at *
                        try generalize Int32.toInt y3 = z7 at *
                        try generalize Int32.toInt y6 = z8 at *
                        try generalize Int32.toInt (0 : Int32) = z9 at *
                        try generalize Int32.toInt (1 : Int32) = z10 at *
                        try generalize Int32.toInt x = z11 at *
                        omega
                      have v_1079 : x.toInt ≤ 1 := by
                        have k_1080 : (0 : Int32).toInt = 0 := by decide
                        have q_1081 := i_nlt c_929
                        have k_1082 : (1 : Int32).toInt = 1 := by decide
                        have q_1083 := i_nlt c_930
                        have q_1084 := i_ne c_932
                        have q_1085 := i_ne c_934
                        have k_1086 : (300 : Int32).toInt = 300 := by decide
                        have q_1087 := i_ne c_944
                        have q_1088 := i_nlt c_945
                        have k_1089 : (99 : Int32).toInt = 99 := by decide
                        have q_1090 := i_nlt c_1027
                        have q_1091 := i_ne c_1029
                        have q_1092 := i_ne c_1031
                        have q_1093 := i_le c_1032
                        try have hq7 := hct x.toNatClampNeg (cl_lt (by omega) (by omega))
                        try generalize Int32.toInt (ct x.toNatClampNeg) = z0 at *
                        try generalize Int32.toInt r_1028 = z1 at *
                        try generalize Int32.toInt r_1030 = z2 at *
                        try generalize Int32.toInt r_931 = z3 at *
                        try generalize Int32.toInt r_933 = z4 at *
                        try generalize Int32.toInt (300 : Int32) = z5 at *
                        try generalize Int32.toInt (99 : Int32) = z6 at *
                        try generalize Int32.toInt y3 = z7 at *
                        try generalize Int32.toInt y6 = z8 at *
                        try generalize Int32.toInt (0 : Int32) = z9 at *
                        try generalize Int32.toInt (1 : Int32) = z10 at *
                        try generalize Int32.toInt x = z11 at *
                        omega
                      have v_1094 : ((ct x.toNatClampNeg)).toInt ≤ (ct x.toNatClampNeg).toInt := by
                        have k_1095 : (0 : Int32).toInt = 0 := by decide
                        have q_1096 := i_nlt c_929
                        have k_1097 : (1 : Int32).toInt = 1 := by decide
                        have q_1098 := i_nlt c_930
                        have q_1099 := i_ne c_932
                        have q_1100 := i_ne c_934
                        have k_1101 : (300 : Int32).toInt = 300 := by decide
                        have q_1102 := i_ne c_944
                        have q_1103 := i_nlt c_945
                        have k_1104 : (99 : Int32).toInt = 99 := by decide
                        have q_1105 := i_nlt c_1027
                        have q_1106 := i_ne c_1029
                        have q_1107 := i_ne c_1031
                        have q_1108 := i_le c_1032
                        try have hq7 := hct x.toNatClampNeg (cl_lt (by omega) (by omega))
                        try generalize Int32.toInt (ct x.toNatClampNeg) = z0 at *
                        try generalize Int32.toInt r_1028 = z1 at *
                        try generalize Int32.toInt r_1030 = z2 at *
                        try generalize Int32.toInt r_931 = z3 at *
                        try generalize Int32.toInt r_933 = z4 at *
                        try generalize Int32.toInt (300 : Int32) = z5 at *
                        try generalize Int32.toInt (99 : Int32) = z6 at *
                        try generalize Int32.toInt y3 = z7 at *
                        try generalize Int32.toInt y6 = z8 at *
                        try generalize Int32.toInt (0 : Int32) = z9 at *
                        try generalize Int32.toInt (1 : Int32) = z10 at *
                        try generalize Int32.toInt x = z11 at *
                        omega
                      have v_1109 : (ct x.toNatClampNeg).toInt ≤ 299 := by
                        have k_1110 : (0 : Int32).toInt = 0 := by decide
                        have q_1111 := i_nlt c_929
                        have k_1112 : (1 : Int32).toInt = 1 := by decide
                        have q_1113 := i_nlt c_930
                        have q_1114 := i_ne c_932
                        have q_1115 := i_ne c_934
                        have k_1116 : (300 : Int32).toInt = 300 := by decide
                        have q_1117 := i_ne c_944
                        have q_1118 := i_nlt c_945
                        have k_1119 : (99 : Int32).toInt = 99 := by decide
                        have q_1120 := i_nlt c_1027
                        have q_1121 := i_ne c_1029
                        have q_1122 := i_ne c_1031
                        have q_1123 := i_le c_1032
                        try have hq7 := hct x.toNatClampNeg (cl_lt (by omega) (by omega))
                        try generalize Int32.toInt (ct x.toNatClampNeg) = z0 at *
                        try generalize Int32.toInt r_1028 = z1 at *
                        try generalize Int32.toInt r_1030 = z2 at *
                        try generalize Int32.toInt r_931 = z3 at *
                        try generalize Int32.toInt r_933 = z4 at *
                        try generalize Int32.toInt (300 : Int32) = z5 at *
                        try generalize Int32.toInt (99 : Int32) = z6 at *
                        try generalize Int32.toInt y3 = z7 at *
                        try generalize Int32.toInt y6 = z8 at *
                        try generalize Int32.toInt (0 : Int32) = z9 at *
                        try generalize Int32.toInt (1 : Int32) = z10 at *
                        try generalize Int32.toInt x = z11 at *
                        omega
                      have v_1124 : 0 ≤ ((ct x.toNatClampNeg)).toInt := by
                        have k_1125 : (0 : Int32).toInt = 0 := by decide
                        have q_1126 := i_nlt c_929
                        have k_1127 : (1 : Int32).toInt = 1 := by decide
                        have q_1128 := i_nlt c_930
                        have q_1129 := i_ne c_932
                        have q_1130 := i_ne c_934
                        have k_1131 : (300 : Int32).toInt = 300 := by decide
                        have q_1132 := i_ne c_944
                        have q_1133 := i_nlt c_945
                        have k_1134 : (99 : Int32).toInt = 99 := by decide
                        have q_1135 := i_nlt c_1027
                        have q_1136 := i_ne c_1029
                        have q_1137 := i_ne c_1031
                        have q_1138 := i_le c_1032
                        try have hq7 := hct x.toNatClampNeg (cl_lt (by omega) (by omega))
                        try generalize Int32.toInt (ct x.toNatClampNeg) = z0 at *
                        try generalize Int32.toInt r_1028 = z1 at *
                        try generalize Int32.toInt r_1030 = z2 at *
                        try generalize Int32.toInt r_931 = z3 at *
                        try generalize Int32.toInt r_933 = z4 at *
                        try generalize Int32.toInt (300 : Int32) = z5 at *
                        try generalize Int32.toInt (99 : Int32) = z6 at *
                        try generalize Int32.toInt y3 = z7 at *
                        try generalize Int32.toInt y6 = z8 at *
                        try generalize Int32.toInt (0 : Int32) = z9 at *
                        try generalize Int32.toInt (1 : Int32) = z10 at *
                        try generalize Int32.toInt x = z11 at *
                        omega
                      have v_1139 : 8 * ((ct x.toNatClampNeg)).toInt + 7 < ((2500 : Nat) : Int) := by
                        have k_1140 : (0 : Int32).toInt = 0 := by decide
                        have q_1141 := i_nlt c_929
                        have k_1142 : (1 : Int32).toInt = 1 := by decide
                        have q_1143 := i_nlt c_930
                        have q_1144 := i_ne c_932
                        have q_1145 := i_ne c_934
                        have k_1146 : (300 : Int32).toInt = 300 := by decide
                        have q_1147 := i_ne c_944
                        have q_1148 := i_nlt c_945
                        have k_1149 : (99 : Int32).toInt = 99 := by decide
                        have q_1150 := i_nlt c_1027
                        have q_1151 := i_ne c_1029
                        have q_1152 := i_ne c_1031
                        have q_1153 := i_le c_1032
                        try have hq7 := hct x.toNatClampNeg (cl_lt (by omega) (by omega))
                        try generalize Int32.toInt (ct x.toNatClampNeg) = z0 at *
                        try generalize Int32.toInt r_1028 = z1 at *
                        try generalize Int32.toInt r_1030 = z2 at *
                        try generalize Int32.toInt r_931 = z3 at *
                        try generalize Int32.toInt r_933 = z4 at *
                        try generalize Int32.toInt (300 : Int32) = z5 at *
                        try generalize Int32.toInt (99 : Int32) = z6 at *
                        try generalize Int32.toInt y3 = z7 at *
                        try generalize Int32.toInt y6 = z8 at *
                        try generalize Int32.toInt (0 : Int32) = z9 at *
                        try generalize Int32.toInt (1 : Int32) = z10 at *
                        try generalize Int32.toInt x = z11 at *
                        omega
                      exact loop_110 2500 ((ct x.toNatClampNeg)) (0) (rw) _ _ ls hR v_1064 v_1079 v_1094 v_1109 v_1124 v_1139 hP hD hS (lv_sub hl [2, 3, 4, 5, 6, 7, 8, 9, 1, 0] rfl)
                    · rw [if_neg c_1032] at hR
                      refine lv_iconst (v := (-1)) hx hb dX9_put_93 (by decide) ?_
                      subst hR
                      exact W.iret (v := (-1)) hx hb hr (fun t ht hW => ⟨⟨(-1), (), rfl, rfl, by rw [ht]; exact hP, hD⟩, hS.F ht⟩) hS.2.2 dX9_put_94
          · rw [if_pos c_944] at hR
            refine lv_iconst (v := (-1)) hx hb dX9_put_48 (by decide) ?_
            subst hR
            exact W.iret (v := (-1)) hx hb hr (fun t ht hW => ⟨⟨(-1), (), rfl, rfl, by rw [ht]; exact hP, hD⟩, hS.F ht⟩) hS.2.2 dX9_put_49
