def fX9_worth (x : Int32) : Int32 :=
  if x < 65 then
    if x < 97 then
      if x < 48 then
        if x = 43 then
          62
        else
          if x = 47 then
            63
          else
            (-1)
      else
        if 57 < x then
          if x = 43 then
            62
          else
            if x = 47 then
              63
            else
              (-1)
        else
          ((x - 48) + 52)
    else
      if 122 < x then
        if x < 48 then
          if x = 43 then
            62
          else
            if x = 47 then
              63
            else
              (-1)
        else
          if 57 < x then
            if x = 43 then
              62
            else
              if x = 47 then
                63
              else
                (-1)
          else
            ((x - 48) + 52)
      else
        ((x - 97) + 26)
  else
    if 90 < x then
      if x < 97 then
        if x < 48 then
          if x = 43 then
            62
          else
            if x = 47 then
              63
            else
              (-1)
        else
          if 57 < x then
            if x = 43 then
              62
            else
              if x = 47 then
                63
              else
                (-1)
          else
            ((x - 48) + 52)
      else
        if 122 < x then
          if x < 48 then
            if x = 43 then
              62
            else
              if x = 47 then
                63
              else
                (-1)
          else
            if 57 < x then
              if x = 43 then
                62
              else
                if x = 47 then
                  63
                else
                  (-1)
            else
              ((x - 48) + 52)
        else
          ((x - 97) + 26)
    else
      (x - 65)
set_option maxHeartbeats 4000000 in
set_option maxRecDepth 100000 in
theorem c_X9_worth (l : Launch) (dC : Nat → ClassId) (dI : Nat → Nat → Nat) (cB cC cI cJ : ClassId) (sz : Nat) (x : Int32) : Met l yX9_worth wsX9_worth ({ frames := 0, cells := 0, slots := 0, locals := 0 } : Room) (cP dC dI cB cC cI cJ [.int x] sz []) (vp_Si (fun r => r = (fX9_worth x) ∧ (-1 ≤ (fX9_worth x).toInt ∧ (fX9_worth x).toInt ≤ 63))) 0 0 (fun _ => False) := by
  refine Met.ofW (cc := cX9_worth) (maxL := 1) (ret := (some .int)) (by decide) rfl ?_
  intro p e s m args below meth c s₁ B hml hv
  obtain ⟨rfl, hsz, hP, hG, hD0⟩ := hv
  have hx := B.exec
  have hb := B.bytes
  have hr := B.returns
  have hts := atoms_spec (ws := wsX9_worth) B.pre
  have hown : s.vm.findClass RX9 = some m.cls := findClass_of_methodNamed B.named
  have hlocks := B.notSynchronized
  subst hsz
  obtain ⟨H, hH⟩ : ∃ H : Heap, H = s.heap := ⟨_, rfl⟩
  rw [← hH] at hP ⊢
  generalize hR : fX9_worth x = R
  unfold fX9_worth at hR
  have hl := lv_entry ([.int x]) (n := 1) (Nat.le_of_ble_eq_true rfl)
  rw [lg_entry_eq]
  generalize (lg_sl ([.int x]) ++ List.replicate (1 - (lg_sl ([.int x])).length) Slot.unset).toArray = ls at hl ⊢
  have hl : lv_has ls 1 [(0, .int x)] := hl
  refine lv_iload_n hx hb dX9_worth_0 rfl (lv_at hl 0 rfl) ?_
  refine lv_bipush (v := 65) hx hb dX9_worth_1 (by decide) ?_
  refine lv_icmp_lt (tgt := 17) hx hb dX9_worth_3 (by decide) (fun c_1 => ?_) (fun c_1 => ?_)
  · rw [if_pos c_1] at hR
    refine lv_iload_n hx hb dX9_worth_17 rfl (lv_at hl 0 rfl) ?_
    refine lv_bipush (v := 97) hx hb dX9_worth_18 (by decide) ?_
    refine lv_icmp_lt (tgt := 37) hx hb dX9_worth_20 (by decide) (fun c_2 => ?_) (fun c_2 => ?_)
    · rw [if_pos c_2] at hR
      refine lv_iload_n hx hb dX9_worth_37 rfl (lv_at hl 0 rfl) ?_
      refine lv_bipush (v := 48) hx hb dX9_worth_38 (by decide) ?_
      refine lv_icmp_lt (tgt := 57) hx hb dX9_worth_40 (by decide) (fun c_3 => ?_) (fun c_3 => ?_)
      · rw [if_pos c_3] at hR
        refine lv_iload_n hx hb dX9_worth_57 rfl (lv_at hl 0 rfl) ?_
        refine lv_bipush (v := 43) hx hb dX9_worth_58 (by decide) ?_
        refine lv_icmp_ne (tgt := 66) hx hb dX9_worth_60 (by decide) (fun c_4 => ?_) (fun c_4 => ?_)
        · rw [if_neg c_4] at hR
          refine lv_iload_n hx hb dX9_worth_66 rfl (lv_at hl 0 rfl) ?_
          refine lv_bipush (v := 47) hx hb dX9_worth_67 (by decide) ?_
          refine lv_icmp_ne (tgt := 75) hx hb dX9_worth_69 (by decide) (fun c_5 => ?_) (fun c_5 => ?_)
          · rw [if_neg c_5] at hR
            refine lv_iconst (v := (-1)) hx hb dX9_worth_75 (by decide) ?_
            have e_6 : -1 ≤ ((-1) : Int32).toInt ∧ ((-1) : Int32).toInt ≤ 63 := by
              have k_7 : (65 : Int32).toInt = 65 := by decide
              have q_8 := i_lt c_1
              have k_9 : (97 : Int32).toInt = 97 := by decide
              have q_10 := i_lt c_2
              have k_11 : (48 : Int32).toInt = 48 := by decide
              have q_12 := i_lt c_3
              have k_13 : (43 : Int32).toInt = 43 := by decide
              have q_14 := i_ne c_4
              have k_15 : (47 : Int32).toInt = 47 := by decide
              have q_16 := i_ne c_5
              have k_17 : ((-1) : Int32).toInt = -1 := by decide
              try generalize Int32.toInt ((-1) : Int32) = z0 at *
              try generalize Int32.toInt (43 : Int32) = z1 at *
              try generalize Int32.toInt (47 : Int32) = z2 at *
              try generalize Int32.toInt (48 : Int32) = z3 at *
              try generalize Int32.toInt (65 : Int32) = z4 at *
              try generalize Int32.toInt (97 : Int32) = z5 at *
              try generalize Int32.toInt x = z6 at *
              omega
            subst hR
            exact W.iret (v := (-1)) hx hb hr (fun t ht hW => ⟨(-1), rfl, ⟨rfl, e_6⟩, ht.trans hH⟩) t_nil dX9_worth_76
          · rw [if_pos c_5] at hR
            refine lv_bipush (v := 63) hx hb dX9_worth_72 (by decide) ?_
            have e_18 : -1 ≤ (63 : Int32).toInt ∧ (63 : Int32).toInt ≤ 63 := by
              have k_19 : (65 : Int32).toInt = 65 := by decide
              have q_20 := i_lt c_1
              have k_21 : (97 : Int32).toInt = 97 := by decide
              have q_22 := i_lt c_2
              have k_23 : (48 : Int32).toInt = 48 := by decide
              have q_24 := i_lt c_3
              have k_25 : (43 : Int32).toInt = 43 := by decide
              have q_26 := i_ne c_4
              have k_27 : (47 : Int32).toInt = 47 := by decide
              have q_28 := i_eq c_5
              have k_29 : (63 : Int32).toInt = 63 := by decide
              try generalize Int32.toInt (43 : Int32) = z0 at *
              try generalize Int32.toInt (47 : Int32) = z1 at *
              try generalize Int32.toInt (48 : Int32) = z2 at *
              try generalize Int32.toInt (63 : Int32) = z3 at *
              try generalize Int32.toInt (65 : Int32) = z4 at *
              try generalize Int32.toInt (97 : Int32) = z5 at *
              try generalize Int32.toInt x = z6 at *
              omega
            subst hR
            exact W.iret (v := 63) hx hb hr (fun t ht hW => ⟨63, rfl, ⟨rfl, e_18⟩, ht.trans hH⟩) t_nil dX9_worth_74
        · rw [if_pos c_4] at hR
          refine lv_bipush (v := 62) hx hb dX9_worth_63 (by decide) ?_
          have e_30 : -1 ≤ (62 : Int32).toInt ∧ (62 : Int32).toInt ≤ 63 := by
            have k_31 : (65 : Int32).toInt = 65 := by decide
            have q_32 := i_lt c_1
            have k_33 : (97 : Int32).toInt = 97 := by decide
            have q_34 := i_lt c_2
            have k_35 : (48 : Int32).toInt = 48 := by decide
            have q_36 := i_lt c_3
            have k_37 : (43 : Int32).toInt = 43 := by decide
            have q_38 := i_eq c_4
            have k_39 : (62 : Int32).toInt = 62 := by decide
            try generalize Int32.toInt (43 : Int32) = z0 at *
            try generalize Int32.toInt (48 : Int32) = z1 at *
            try generalize Int32.toInt (62 : Int32) = z2 at *
            try generalize Int32.toInt (65 : Int32) = z3 at *
            try generalize Int32.toInt (97 : Int32) = z4 at *
            try generalize Int32.toInt x = z5 at *
            omega
          subst hR
          exact W.iret (v := 62) hx hb hr (fun t ht hW => ⟨62, rfl, ⟨rfl, e_30⟩, ht.trans hH⟩) t_nil dX9_worth_65
      · rw [if_neg c_3] at hR
        refine lv_iload_n hx hb dX9_worth_43 rfl (lv_at hl 0 rfl) ?_
        refine lv_bipush (v := 57) hx hb dX9_worth_44 (by decide) ?_
        refine lv_icmp_gt (tgt := 57) hx hb dX9_worth_46 (by decide) (fun c_40 => ?_) (fun c_40 => ?_)
        · rw [if_pos c_40] at hR
          refine lv_iload_n hx hb dX9_worth_57 rfl (lv_at hl 0 rfl) ?_
          refine lv_bipush (v := 43) hx hb dX9_worth_58 (by decide) ?_
          refine lv_icmp_ne (tgt := 66) hx hb dX9_worth_60 (by decide) (fun c_41 => ?_) (fun c_41 => ?_)
          · rw [if_neg c_41] at hR
            refine lv_iload_n hx hb dX9_worth_66 rfl (lv_at hl 0 rfl) ?_
            refine lv_bipush (v := 47) hx hb dX9_worth_67 (by decide) ?_
            refine lv_icmp_ne (tgt := 75) hx hb dX9_worth_69 (by decide) (fun c_42 => ?_) (fun c_42 => ?_)
            · rw [if_neg c_42] at hR
              refine lv_iconst (v := (-1)) hx hb dX9_worth_75 (by decide) ?_
              have e_43 : -1 ≤ ((-1) : Int32).toInt ∧ ((-1) : Int32).toInt ≤ 63 := by
                have k_44 : (65 : Int32).toInt = 65 := by decide
                have q_45 := i_lt c_1
                have k_46 : (97 : Int32).toInt = 97 := by decide
                have q_47 := i_lt c_2
                have k_48 : (48 : Int32).toInt = 48 := by decide
                have q_49 := i_nlt c_3
                have k_50 : (57 : Int32).toInt = 57 := by decide
                have q_51 := i_lt c_40
                have k_52 : (43 : Int32).toInt = 43 := by decide
                have q_53 := i_ne c_41
                have k_54 : (47 : Int32).toInt = 47 := by decide
                have q_55 := i_ne c_42
                have k_56 : ((-1) : Int32).toInt = -1 := by decide
                try generalize Int32.toInt ((-1) : Int32) = z0 at *
                try generalize Int32.toInt (43 : Int32) = z1 at *
                try generalize Int32.toInt (47 : Int32) = z2 at *
                try generalize Int32.toInt (48 : Int32) = z3 at *
                try generalize Int32.toInt (57 : Int32) = z4 at *
                try generalize Int32.toInt (65 : Int32) = z5 at *
                try generalize Int32.toInt (97 : Int32) = z6 at *
                try generalize Int32.toInt x = z7 at *
                omega
              subst hR
              exact W.iret (v := (-1)) hx hb hr (fun t ht hW => ⟨(-1), rfl, ⟨rfl, e_43⟩, ht.trans hH⟩) t_nil dX9_worth_76
            · rw [if_pos c_42] at hR
              refine lv_bipush (v := 63) hx hb dX9_worth_72 (by decide) ?_
              have e_57 : -1 ≤ (63 : Int32).toInt ∧ (63 : Int32).toInt ≤ 63 := by
                have k_58 : (65 : Int32).toInt = 65 := by decide
                have q_59 := i_lt c_1
                have k_60 : (97 : Int32).toInt = 97 := by decide
                have q_61 := i_lt c_2
                have k_62 : (48 : Int32).toInt = 48 := by decide
                have q_63 := i_nlt c_3
                have k_64 : (57 : Int32).toInt = 57 := by decide
                have q_65 := i_lt c_40
                have k_66 : (43 : Int32).toInt = 43 := by decide
                have q_67 := i_ne c_41
                have k_68 : (47 : Int32).toInt = 47 := by decide
                have q_69 := i_eq c_42
                have k_70 : (63 : Int32).toInt = 63 := by decide
                try generalize Int32.toInt (43 : Int32) = z0 at *
                try generalize Int32.toInt (47 : Int32) = z1 at *
                try generalize Int32.toInt (48 : Int32) = z2 at *
                try generalize Int32.toInt (57 : Int32) = z3 at *
                try generalize Int32.toInt (63 : Int32) = z4 at *
                try generalize Int32.toInt (65 : Int32) = z5 at *
                try generalize Int32.toInt (97 : Int32) = z6 at *
                try generalize Int32.toInt x = z7 at *
                omega
              subst hR
              exact W.iret (v := 63) hx hb hr (fun t ht hW => ⟨63, rfl, ⟨rfl, e_57⟩, ht.trans hH⟩) t_nil dX9_worth_74
          · rw [if_pos c_41] at hR
            refine lv_bipush (v := 62) hx hb dX9_worth_63 (by decide) ?_
            have e_71 : -1 ≤ (62 : Int32).toInt ∧ (62 : Int32).toInt ≤ 63 := by
              have k_72 : (65 : Int32).toInt = 65 := by decide
              have q_73 := i_lt c_1
              have k_74 : (97 : Int32).toInt = 97 := by decide
              have q_75 := i_lt c_2
              have k_76 : (48 : Int32).toInt = 48 := by decide
              have q_77 := i_nlt c_3
              have k_78 : (57 : Int32).toInt = 57 := by decide
              have q_79 := i_lt c_40
              have k_80 : (43 : Int32).toInt = 43 := by decide
              have q_81 := i_eq c_41
              have k_82 : (62 : Int32).toInt = 62 := by decide
              try generalize Int32.toInt (43 : Int32) = z0 at *
              try generalize Int32.toInt (48 : Int32) = z1 at *
              try generalize Int32.toInt (57 : Int32) = z2 at *
              try generalize Int32.toInt (62 : Int32) = z3 at *
              try generalize Int32.toInt (65 : Int32) = z4 at *
              try generalize Int32.toInt (97 : Int32) = z5 at *
              try generalize Int32.toInt x = z6 at *
              omega
            subst hR
            exact W.iret (v := 62) hx hb hr (fun t ht hW => ⟨62, rfl, ⟨rfl, e_71⟩, ht.trans hH⟩) t_nil dX9_worth_65
        · rw [if_neg c_40] at hR
          refine lv_iload_n hx hb dX9_worth_49 rfl (lv_at hl 0 rfl) ?_
          refine lv_bipush (v := 48) hx hb dX9_worth_50 (by decide) ?_
          refine lv_isub hx hb dX9_worth_52 ?_
          refine lv_bipush (v := 52) hx hb dX9_worth_53 (by decide) ?_
          refine lv_iadd hx hb dX9_worth_55 ?_
          have e_83 : -1 ≤ (((x - 48) + 52) : Int32).toInt ∧ (((x - 48) + 52) : Int32).toInt ≤ 63 := by
            have k_84 : (65 : Int32).toInt = 65 := by decide
            have q_85 := i_lt c_1
            have k_86 : (97 : Int32).toInt = 97 := by decide
            have q_87 := i_lt c_2
            have k_88 : (48 : Int32).toInt = 48 := by decide
            have q_89 := i_nlt c_3
            have k_90 : (57 : Int32).toInt = 57 := by decide
            have q_91 := i_nlt c_40
            have t_92 := ti_sub (a := x) (b := 48) (by omega) (by omega)
            have k_93 : (52 : Int32).toInt = 52 := by decide
            have t_94 := ti_add (a := (x - 48)) (b := 52) (by omega) (by omega)
            try generalize Int32.toInt ((x - 48) + 52) = z0 at *
            try generalize Int32.toInt (x - 48) = z1 at *
            try generalize Int32.toInt (48 : Int32) = z2 at *
            try generalize Int32.toInt (52 : Int32) = z3 at *
            try generalize Int32.toInt (57 : Int32) = z4 at *
            try generalize Int32.toInt (65 : Int32) = z5 at *
            try generalize Int32.toInt (97 : Int32) = z6 at *
            try generalize Int32.toInt x = z7 at *
            omega
          subst hR
          exact W.iret (v := ((x - 48) + 52)) hx hb hr (fun t ht hW => ⟨((x - 48) + 52), rfl, ⟨rfl, e_83⟩, ht.trans hH⟩) t_nil dX9_worth_56
    · rw [if_neg c_2] at hR
      refine lv_iload_n hx hb dX9_worth_23 rfl (lv_at hl 0 rfl) ?_
      refine lv_bipush (v := 122) hx hb dX9_worth_24 (by decide) ?_
      refine lv_icmp_gt (tgt := 37) hx hb dX9_worth_26 (by decide) (fun c_95 => ?_) (fun c_95 => ?_)
      · rw [if_pos c_95] at hR
        refine lv_iload_n hx hb dX9_worth_37 rfl (lv_at hl 0 rfl) ?_
        refine lv_bipush (v := 48) hx hb dX9_worth_38 (by decide) ?_
        refine lv_icmp_lt (tgt := 57) hx hb dX9_worth_40 (by decide) (fun c_96 => ?_) (fun c_96 => ?_)
        · rw [if_pos c_96] at hR
          refine lv_iload_n hx hb dX9_worth_57 rfl (lv_at hl 0 rfl) ?_
          refine lv_bipush (v := 43) hx hb dX9_worth_58 (by decide) ?_
          refine lv_icmp_ne (tgt := 66) hx hb dX9_worth_60 (by decide) (fun c_97 => ?_) (fun c_97 => ?_)
          · rw [if_neg c_97] at hR
            refine lv_iload_n hx hb dX9_worth_66 rfl (lv_at hl 0 rfl) ?_
            refine lv_bipush (v := 47) hx hb dX9_worth_67 (by decide) ?_
            refine lv_icmp_ne (tgt := 75) hx hb dX9_worth_69 (by decide) (fun c_98 => ?_) (fun c_98 => ?_)
            · rw [if_neg c_98] at hR
              refine lv_iconst (v := (-1)) hx hb dX9_worth_75 (by decide) ?_
              have e_99 : -1 ≤ ((-1) : Int32).toInt ∧ ((-1) : Int32).toInt ≤ 63 := by
                have k_100 : (65 : Int32).toInt = 65 := by decide
                have q_101 := i_lt c_1
                have k_102 : (97 : Int32).toInt = 97 := by decide
                have q_103 := i_nlt c_2
                have k_104 : (122 : Int32).toInt = 122 := by decide
                have q_105 := i_lt c_95
                have k_106 : (48 : Int32).toInt = 48 := by decide
                have q_107 := i_lt c_96
                have k_108 : (43 : Int32).toInt = 43 := by decide
                have q_109 := i_ne c_97
                have k_110 : (47 : Int32).toInt = 47 := by decide
                have q_111 := i_ne c_98
                have k_112 : ((-1) : Int32).toInt = -1 := by decide
                try generalize Int32.toInt ((-1) : Int32) = z0 at *
                try generalize Int32.toInt (122 : Int32) = z1 at *
                try generalize Int32.toInt (43 : Int32) = z2 at *
                try generalize Int32.toInt (47 : Int32) = z3 at *
                try generalize Int32.toInt (48 : Int32) = z4 at *
                try generalize Int32.toInt (65 : Int32) = z5 at *
                try generalize Int32.toInt (97 : Int32) = z6 at *
                try generalize Int32.toInt x = z7 at *
                omega
              subst hR
              exact W.iret (v := (-1)) hx hb hr (fun t ht hW => ⟨(-1), rfl, ⟨rfl, e_99⟩, ht.trans hH⟩) t_nil dX9_worth_76
            · rw [if_pos c_98] at hR
              refine lv_bipush (v := 63) hx hb dX9_worth_72 (by decide) ?_
              have e_113 : -1 ≤ (63 : Int32).toInt ∧ (63 : Int32).toInt ≤ 63 := by
                have k_114 : (65 : Int32).toInt = 65 := by decide
                have q_115 := i_lt c_1
                have k_116 : (97 : Int32).toInt = 97 := by decide
                have q_117 := i_nlt c_2
                have k_118 : (122 : Int32).toInt = 122 := by decide
                have q_119 := i_lt c_95
                have k_120 : (48 : Int32).toInt = 48 := by decide
                have q_121 := i_lt c_96
                have k_122 : (43 : Int32).toInt = 43 := by decide
                have q_123 := i_ne c_97
                have k_124 : (47 : Int32).toInt = 47 := by decide
                have q_125 := i_eq c_98
                have k_126 : (63 : Int32).toInt = 63 := by decide
                try generalize Int32.toInt (122 : Int32) = z0 at *
                try generalize Int32.toInt (43 : Int32) = z1 at *
                try generalize Int32.toInt (47 : Int32) = z2 at *
                try generalize Int32.toInt (48 : Int32) = z3 at *
                try generalize Int32.toInt (63 : Int32) = z4 at *
                try generalize Int32.toInt (65 : Int32) = z5 at *
                try generalize Int32.toInt (97 : Int32) = z6 at *
                try generalize Int32.toInt x = z7 at *
                omega
              subst hR
              exact W.iret (v := 63) hx hb hr (fun t ht hW => ⟨63, rfl, ⟨rfl, e_113⟩, ht.trans hH⟩) t_nil dX9_worth_74
          · rw [if_pos c_97] at hR
            refine lv_bipush (v := 62) hx hb dX9_worth_63 (by decide) ?_
            have e_127 : -1 ≤ (62 : Int32).toInt ∧ (62 : Int32).toInt ≤ 63 := by
              have k_128 : (65 : Int32).toInt = 65 := by decide
              have q_129 := i_lt c_1
              have k_130 : (97 : Int32).toInt = 97 := by decide
              have q_131 := i_nlt c_2
              have k_132 : (122 : Int32).toInt = 122 := by decide
              have q_133 := i_lt c_95
              have k_134 : (48 : Int32).toInt = 48 := by decide
              have q_135 := i_lt c_96
              have k_136 : (43 : Int32).toInt = 43 := by decide
              have q_137 := i_eq c_97
              have k_138 : (62 : Int32).toInt = 62 := by decide
              try generalize Int32.toInt (122 : Int32) = z0 at *
              try generalize Int32.toInt (43 : Int32) = z1 at *
              try generalize Int32.toInt (48 : Int32) = z2 at *
              try generalize Int32.toInt (62 : Int32) = z3 at *
              try generalize Int32.toInt (65 : Int32) = z4 at *
              try generalize Int32.toInt (97 : Int32) = z5 at *
              try generalize Int32.toInt x = z6 at *
              omega
            subst hR
            exact W.iret (v := 62) hx hb hr (fun t ht hW => ⟨62, rfl, ⟨rfl, e_127⟩, ht.trans hH⟩) t_nil dX9_worth_65
        · rw [if_neg c_96] at hR
          refine lv_iload_n hx hb dX9_worth_43 rfl (lv_at hl 0 rfl) ?_
          refine lv_bipush (v := 57) hx hb dX9_worth_44 (by decide) ?_
          refine lv_icmp_gt (tgt := 57) hx hb dX9_worth_46 (by decide) (fun c_139 => ?_) (fun c_139 => ?_)
          · rw [if_pos c_139] at hR
            refine lv_iload_n hx hb dX9_worth_57 rfl (lv_at hl 0 rfl) ?_
            refine lv_bipush (v := 43) hx hb dX9_worth_58 (by decide) ?_
            refine lv_icmp_ne (tgt := 66) hx hb dX9_worth_60 (by decide) (fun c_140 => ?_) (fun c_140 => ?_)
            · rw [if_neg c_140] at hR
              refine lv_iload_n hx hb dX9_worth_66 rfl (lv_at hl 0 rfl) ?_
              refine lv_bipush (v := 47) hx hb dX9_worth_67 (by decide) ?_
              refine lv_icmp_ne (tgt := 75) hx hb dX9_worth_69 (by decide) (fun c_141 => ?_) (fun c_141 => ?_)
              · rw [if_neg c_141] at hR
                refine lv_iconst (v := (-1)) hx hb dX9_worth_75 (by decide) ?_
                have e_142 : -1 ≤ ((-1) : Int32).toInt ∧ ((-1) : Int32).toInt ≤ 63 := by
                  have k_143 : (65 : Int32).toInt = 65 := by decide
                  have q_144 := i_lt c_1
                  have k_145 : (97 : Int32).toInt = 97 := by decide
                  have q_146 := i_nlt c_2
                  have k_147 : (122 : Int32).toInt = 122 := by decide
                  have q_148 := i_lt c_95
                  have k_149 : (48 : Int32).toInt = 48 := by decide
                  have q_150 := i_nlt c_96
                  have k_151 : (57 : Int32).toInt = 57 := by decide
                  have q_152 := i_lt c_139
                  have k_153 : (43 : Int32).toInt = 43 := by decide
                  have q_154 := i_ne c_140
                  have k_155 : (47 : Int32).toInt = 47 := by decide
                  have q_156 := i_ne c_141
                  have k_157 : ((-1) : Int32).toInt = -1 := by decide
                  try generalize Int32.toInt ((-1) : Int32) = z0 at *
                  try generalize Int32.toInt (122 : Int32) = z1 at *
                  try generalize Int32.toInt (43 : Int32) = z2 at *
                  try generalize Int32.toInt (47 : Int32) = z3 at *
                  try generalize Int32.toInt (48 : Int32) = z4 at *
                  try generalize Int32.toInt (57 : Int32) = z5 at *
                  try generalize Int32.toInt (65 : Int32) = z6 at *
                  try generalize Int32.toInt (97 : Int32) = z7 at *
                  try generalize Int32.toInt x = z8 at *
                  omega
                subst hR
                exact W.iret (v := (-1)) hx hb hr (fun t ht hW => ⟨(-1), rfl, ⟨rfl, e_142⟩, ht.trans hH⟩) t_nil dX9_worth_76
              · rw [if_pos c_141] at hR
                refine lv_bipush (v := 63) hx hb dX9_worth_72 (by decide) ?_
                have e_158 : -1 ≤ (63 : Int32).toInt ∧ (63 : Int32).toInt ≤ 63 := by
                  have k_159 : (65 : Int32).toInt = 65 := by decide
                  have q_160 := i_lt c_1
                  have k_161 : (97 : Int32).toInt = 97 := by decide
                  have q_162 := i_nlt c_2
                  have k_163 : (122 : Int32).toInt = 122 := by decide
                  have q_164 := i_lt c_95
                  have k_165 : (48 : Int32).toInt = 48 := by decide
                  have q_166 := i_nlt c_96
                  have k_167 : (57 : Int32).toInt = 57 := by decide
                  have q_168 := i_lt c_139
                  have k_169 : (43 : Int32).toInt = 43 := by decide
                  have q_170 := i_ne c_140
                  have k_171 : (47 : Int32).toInt = 47 := by decide
                  have q_172 := i_eq c_141
                  have k_173 : (63 : Int32).toInt = 63 := by decide
                  try generalize Int32.toInt (122 : Int32) = z0 at *
                  try generalize Int32.toInt (43 : Int32) = z1 at *
                  try generalize Int32.toInt (47 : Int32) = z2 at *
                  try generalize Int32.toInt (48 : Int32) = z3 at *
                  try generalize Int32.toInt (57 : Int32) = z4 at *
                  try generalize Int32.toInt (63 : Int32) = z5 at *
                  try generalize Int32.toInt (65 : Int32) = z6 at *
                  try generalize Int32.toInt (97 : Int32) = z7 at *
                  try generalize Int32.toInt x = z8 at *
                  omega
                subst hR
                exact W.iret (v := 63) hx hb hr (fun t ht hW => ⟨63, rfl, ⟨rfl, e_158⟩, ht.trans hH⟩) t_nil dX9_worth_74
            · rw [if_pos c_140] at hR
              refine lv_bipush (v := 62) hx hb dX9_worth_63 (by decide) ?_
              have e_174 : -1 ≤ (62 : Int32).toInt ∧ (62 : Int32).toInt ≤ 63 := by
                have k_175 : (65 : Int32).toInt = 65 := by decide
                have q_176 := i_lt c_1
                have k_177 : (97 : Int32).toInt = 97 := by decide
                have q_178 := i_nlt c_2
                have k_179 : (122 : Int32).toInt = 122 := by decide
                have q_180 := i_lt c_95
                have k_181 : (48 : Int32).toInt = 48 := by decide
                have q_182 := i_nlt c_96
                have k_183 : (57 : Int32).toInt = 57 := by decide
                have q_184 := i_lt c_139
                have k_185 : (43 : Int32).toInt = 43 := by decide
                have q_186 := i_eq c_140
                have k_187 : (62 : Int32).toInt = 62 := by decide
                try generalize Int32.toInt (122 : Int32) = z0 at *
                try generalize Int32.toInt (43 : Int32) = z1 at *
                try generalize Int32.toInt (48 : Int32) = z2 at *
                try generalize Int32.toInt (57 : Int32) = z3 at *
                try generalize Int32.toInt (62 : Int32) = z4 at *
                try generalize Int32.toInt (65 : Int32) = z5 at *
                try generalize Int32.toInt (97 : Int32) = z6 at *
                try generalize Int32.toInt x = z7 at *
                omega
              subst hR
              exact W.iret (v := 62) hx hb hr (fun t ht hW => ⟨62, rfl, ⟨rfl, e_174⟩, ht.trans hH⟩) t_nil dX9_worth_65
          · rw [if_neg c_139] at hR
            refine lv_iload_n hx hb dX9_worth_49 rfl (lv_at hl 0 rfl) ?_
            refine lv_bipush (v := 48) hx hb dX9_worth_50 (by decide) ?_
            refine lv_isub hx hb dX9_worth_52 ?_
            refine lv_bipush (v := 52) hx hb dX9_worth_53 (by decide) ?_
            refine lv_iadd hx hb dX9_worth_55 ?_
            have e_188 : -1 ≤ (((x - 48) + 52) : Int32).toInt ∧ (((x - 48) + 52) : Int32).toInt ≤ 63 := by
              have k_189 : (65 : Int32).toInt = 65 := by decide
              have q_190 := i_lt c_1
              have k_191 : (97 : Int32).toInt = 97 := by decide
              have q_192 := i_nlt c_2
              have k_193 : (122 : Int32).toInt = 122 := by decide
              have q_194 := i_lt c_95
              have k_195 : (48 : Int32).toInt = 48 := by decide
              have q_196 := i_nlt c_96
              have k_197 : (57 : Int32).toInt = 57 := by decide
              have q_198 := i_nlt c_139
              have t_199 := ti_sub (a := x) (b := 48) (by omega) (by omega)
              have k_200 : (52 : Int32).toInt = 52 := by decide
              have t_201 := ti_add (a := (x - 48)) (b := 52) (by omega) (by omega)
              try generalize Int32.toInt ((x - 48) + 52) = z0 at *
              try generalize Int32.toInt (x - 48) = z1 at *
              try generalize Int32.toInt (122 : Int32) = z2 at *
              try generalize Int32.toInt (48 : Int32) = z3 at *
              try generalize Int32.toInt (52 : Int32) = z4 at *
              try generalize Int32.toInt (57 : Int32) = z5 at *
              try generalize Int32.toInt (65 : Int32) = z6 at *
              try generalize Int32.toInt (97 : Int32) = z7 at *
              try generalize Int32.toInt x = z8 at *
              omega
            subst hR
            exact W.iret (v := ((x - 48) + 52)) hx hb hr (fun t ht hW => ⟨((x - 48) + 52), rfl, ⟨rfl, e_188⟩, ht.trans hH⟩) t_nil dX9_worth_56
      · rw [if_neg c_95] at hR
        refine lv_iload_n hx hb dX9_worth_29 rfl (lv_at hl 0 rfl) ?_
        refine lv_bipush (v := 97) hx hb dX9_worth_30 (by decide) ?_
        refine lv_isub hx hb dX9_worth_32 ?_
        refine lv_bipush (v := 26) hx hb dX9_worth_33 (by decide) ?_
        refine lv_iadd hx hb dX9_worth_35 ?_
        have e_202 : -1 ≤ (((x - 97) + 26) : Int32).toInt ∧ (((x - 97) + 26) : Int32).toInt ≤ 63 := by
          have k_203 : (65 : Int32).toInt = 65 := by decide
          have q_204 := i_lt c_1
          have k_205 : (97 : Int32).toInt = 97 := by decide
          have q_206 := i_nlt c_2
          have k_207 : (122 : Int32).toInt = 122 := by decide
          have q_208 := i_nlt c_95
          have t_209 := ti_sub (a := x) (b := 97) (by omega) (by omega)
          have k_210 : (26 : Int32).toInt = 26 := by decide
          have t_211 := ti_add (a := (x - 97)) (b := 26) (by omega) (by omega)
          try generalize Int32.toInt ((x - 97) + 26) = z0 at *
          try generalize Int32.toInt (x - 97) = z1 at *
          try generalize Int32.toInt (122 : Int32) = z2 at *
          try generalize Int32.toInt (26 : Int32) = z3 at *
          try generalize Int32.toInt (65 : Int32) = z4 at *
          try generalize Int32.toInt (97 : Int32) = z5 at *
          try generalize Int32.toInt x = z6 at *
          omega
        subst hR
        exact W.iret (v := ((x - 97) + 26)) hx hb hr (fun t ht hW => ⟨((x - 97) + 26), rfl, ⟨rfl, e_202⟩, ht.trans hH⟩) t_nil dX9_worth_36
  · rw [if_neg c_1] at hR
    refine lv_iload_n hx hb dX9_worth_6 rfl (lv_at hl 0 rfl) ?_
    refine lv_bipush (v := 90) hx hb dX9_worth_7 (by decide) ?_
    refine lv_icmp_gt (tgt := 17) hx hb dX9_worth_9 (by decide) (fun c_212 => ?_) (fun c_212 => ?_)
    · rw [if_pos c_212] at hR
      refine lv_iload_n hx hb dX9_worth_17 rfl (lv_at hl 0 rfl) ?_
      refine lv_bipush (v := 97) hx hb dX9_worth_18 (by decide) ?_
      refine lv_icmp_lt (tgt := 37) hx hb dX9_worth_20 (by decide) (fun c_213 => ?_) (fun c_213 => ?_)
      · rw [if_pos c_213] at hR
        refine lv_iload_n hx hb dX9_worth_37 rfl (lv_at hl 0 rfl) ?_
        refine lv_bipush (v := 48) hx hb dX9_worth_38 (by decide) ?_
        refine lv_icmp_lt (tgt := 57) hx hb dX9_worth_40 (by decide) (fun c_214 => ?_) (fun c_214 => ?_)
        · rw [if_pos c_214] at hR
          refine lv_iload_n hx hb dX9_worth_57 rfl (lv_at hl 0 rfl) ?_
          refine lv_bipush (v := 43) hx hb dX9_worth_58 (by decide) ?_
          refine lv_icmp_ne (tgt := 66) hx hb dX9_worth_60 (by decide) (fun c_215 => ?_) (fun c_215 => ?_)
          · rw [if_neg c_215] at hR
            refine lv_iload_n hx hb dX9_worth_66 rfl (lv_at hl 0 rfl) ?_
            refine lv_bipush (v := 47) hx hb dX9_worth_67 (by decide) ?_
            refine lv_icmp_ne (tgt := 75) hx hb dX9_worth_69 (by decide) (fun c_216 => ?_) (fun c_216 => ?_)
            · rw [if_neg c_216] at hR
              refine lv_iconst (v := (-1)) hx hb dX9_worth_75 (by decide) ?_
              have e_217 : -1 ≤ ((-1) : Int32).toInt ∧ ((-1) : Int32).toInt ≤ 63 := by
                have k_218 : (65 : Int32).toInt = 65 := by decide
                have q_219 := i_nlt c_1
                have k_220 : (90 : Int32).toInt = 90 := by decide
                have q_221 := i_lt c_212
                have k_222 : (97 : Int32).toInt = 97 := by decide
                have q_223 := i_lt c_213
                have k_224 : (48 : Int32).toInt = 48 := by decide
                have q_225 := i_lt c_214
                have k_226 : (43 : Int32).toInt = 43 := by decide
                have q_227 := i_ne c_215
                have k_228 : (47 : Int32).toInt = 47 := by decide
                have q_229 := i_ne c_216
                have k_230 : ((-1) : Int32).toInt = -1 := by decide
                try generalize Int32.toInt ((-1) : Int32) = z0 at *
                try generalize Int32.toInt (43 : Int32) = z1 at *
                try generalize Int32.toInt (47 : Int32) = z2 at *
                try generalize Int32.toInt (48 : Int32) = z3 at *
                try generalize Int32.toInt (65 : Int32) = z4 at *
                try generalize Int32.toInt (90 : Int32) = z5 at *
                try generalize Int32.toInt (97 : Int32) = z6 at *
                try generalize Int32.toInt x = z7 at *
                omega
              subst hR
              exact W.iret (v := (-1)) hx hb hr (fun t ht hW => ⟨(-1), rfl, ⟨rfl, e_217⟩, ht.trans hH⟩) t_nil dX9_worth_76
            · rw [if_pos c_216] at hR
              refine lv_bipush (v := 63) hx hb dX9_worth_72 (by decide) ?_
              have e_231 : -1 ≤ (63 : Int32).toInt ∧ (63 : Int32).toInt ≤ 63 := by
                have k_232 : (65 : Int32).toInt = 65 := by decide
                have q_233 := i_nlt c_1
                have k_234 : (90 : Int32).toInt = 90 := by decide
                have q_235 := i_lt c_212
                have k_236 : (97 : Int32).toInt = 97 := by decide
                have q_237 := i_lt c_213
                have k_238 : (48 : Int32).toInt = 48 := by decide
                have q_239 := i_lt c_214
                have k_240 : (43 : Int32).toInt = 43 := by decide
                have q_241 := i_ne c_215
                have k_242 : (47 : Int32).toInt = 47 := by decide
                have q_243 := i_eq c_216
                have k_244 : (63 : Int32).toInt = 63 := by decide
                try generalize Int32.toInt (43 : Int32) = z0 at *
                try generalize Int32.toInt (47 : Int32) = z1 at *
                try generalize Int32.toInt (48 : Int32) = z2 at *
                try generalize Int32.toInt (63 : Int32) = z3 at *
                try generalize Int32.toInt (65 : Int32) = z4 at *
                try generalize Int32.toInt (90 : Int32) = z5 at *
                try generalize Int32.toInt (97 : Int32) = z6 at *
                try generalize Int32.toInt x = z7 at *
                omega
              subst hR
              exact W.iret (v := 63) hx hb hr (fun t ht hW => ⟨63, rfl, ⟨rfl, e_231⟩, ht.trans hH⟩) t_nil dX9_worth_74
          · rw [if_pos c_215] at hR
            refine lv_bipush (v := 62) hx hb dX9_worth_63 (by decide) ?_
            have e_245 : -1 ≤ (62 : Int32).toInt ∧ (62 : Int32).toInt ≤ 63 := by
              have k_246 : (65 : Int32).toInt = 65 := by decide
              have q_247 := i_nlt c_1
              have k_248 : (90 : Int32).toInt = 90 := by decide
              have q_249 := i_lt c_212
              have k_250 : (97 : Int32).toInt = 97 := by decide
              have q_251 := i_lt c_213
              have k_252 : (48 : Int32).toInt = 48 := by decide
              have q_253 := i_lt c_214
              have k_254 : (43 : Int32).toInt = 43 := by decide
              have q_255 := i_eq c_215
              have k_256 : (62 : Int32).toInt = 62 := by decide
              try generalize Int32.toInt (43 : Int32) = z0 at *
              try generalize Int32.toInt (48 : Int32) = z1 at *
              try generalize Int32.toInt (62 : Int32) = z2 at *
              try generalize Int32.toInt (65 : Int32) = z3 at *
              try generalize Int32.toInt (90 : Int32) = z4 at *
              try generalize Int32.toInt (97 : Int32) = z5 at *
              try generalize Int32.toInt x = z6 at *
              omega
            subst hR
            exact W.iret (v := 62) hx hb hr (fun t ht hW => ⟨62, rfl, ⟨rfl, e_245⟩, ht.trans hH⟩) t_nil dX9_worth_65
        · rw [if_neg c_214] at hR
          refine lv_iload_n hx hb dX9_worth_43 rfl (lv_at hl 0 rfl) ?_
          refine lv_bipush (v := 57) hx hb dX9_worth_44 (by decide) ?_
          refine lv_icmp_gt (tgt := 57) hx hb dX9_worth_46 (by decide) (fun c_257 => ?_) (fun c_257 => ?_)
          · rw [if_pos c_257] at hR
            refine lv_iload_n hx hb dX9_worth_57 rfl (lv_at hl 0 rfl) ?_
            refine lv_bipush (v := 43) hx hb dX9_worth_58 (by decide) ?_
            refine lv_icmp_ne (tgt := 66) hx hb dX9_worth_60 (by decide) (fun c_258 => ?_) (fun c_258 => ?_)
            · rw [if_neg c_258] at hR
              refine lv_iload_n hx hb dX9_worth_66 rfl (lv_at hl 0 rfl) ?_
              refine lv_bipush (v := 47) hx hb dX9_worth_67 (by decide) ?_
              refine lv_icmp_ne (tgt := 75) hx hb dX9_worth_69 (by decide) (fun c_259 => ?_) (fun c_259 => ?_)
              · rw [if_neg c_259] at hR
                refine lv_iconst (v := (-1)) hx hb dX9_worth_75 (by decide) ?_
                have e_260 : -1 ≤ ((-1) : Int32).toInt ∧ ((-1) : Int32).toInt ≤ 63 := by
                  have k_261 : (65 : Int32).toInt = 65 := by decide
                  have q_262 := i_nlt c_1
                  have k_263 : (90 : Int32).toInt = 90 := by decide
                  have q_264 := i_lt c_212
                  have k_265 : (97 : Int32).toInt = 97 := by decide
                  have q_266 := i_lt c_213
                  have k_267 : (48 : Int32).toInt = 48 := by decide
                  have q_268 := i_nlt c_214
                  have k_269 : (57 : Int32).toInt = 57 := by decide
                  have q_270 := i_lt c_257
                  have k_271 : (43 : Int32).toInt = 43 := by decide
                  have q_272 := i_ne c_258
                  have k_273 : (47 : Int32).toInt = 47 := by decide
                  have q_274 := i_ne c_259
                  have k_275 : ((-1) : Int32).toInt = -1 := by decide
                  try generalize Int32.toInt ((-1) : Int32) = z0 at *
                  try generalize Int32.toInt (43 : Int32) = z1 at *
                  try generalize Int32.toInt (47 : Int32) = z2 at *
                  try generalize Int32.toInt (48 : Int32) = z3 at *
                  try generalize Int32.toInt (57 : Int32) = z4 at *
                  try generalize Int32.toInt (65 : Int32) = z5 at *
                  try generalize Int32.toInt (90 : Int32) = z6 at *
                  try generalize Int32.toInt (97 : Int32) = z7 at *
                  try generalize Int32.toInt x = z8 at *
                  omega
                subst hR
                exact W.iret (v := (-1)) hx hb hr (fun t ht hW => ⟨(-1), rfl, ⟨rfl, e_260⟩, ht.trans hH⟩) t_nil dX9_worth_76
              · rw [if_pos c_259] at hR
                refine lv_bipush (v := 63) hx hb dX9_worth_72 (by decide) ?_
                have e_276 : -1 ≤ (63 : Int32).toInt ∧ (63 : Int32).toInt ≤ 63 := by
                  have k_277 : (65 : Int32).toInt = 65 := by decide
                  have q_278 := i_nlt c_1
                  have k_279 : (90 : Int32).toInt = 90 := by decide
                  have q_280 := i_lt c_212
                  have k_281 : (97 : Int32).toInt = 97 := by decide
                  have q_282 := i_lt c_213
                  have k_283 : (48 : Int32).toInt = 48 := by decide
                  have q_284 := i_nlt c_214
                  have k_285 : (57 : Int32).toInt = 57 := by decide
                  have q_286 := i_lt c_257
                  have k_287 : (43 : Int32).toInt = 43 := by decide
                  have q_288 := i_ne c_258
                  have k_289 : (47 : Int32).toInt = 47 := by decide
                  have q_290 := i_eq c_259
                  have k_291 : (63 : Int32).toInt = 63 := by decide
                  try generalize Int32.toInt (43 : Int32) = z0 at *
                  try generalize Int32.toInt (47 : Int32) = z1 at *
                  try generalize Int32.toInt (48 : Int32) = z2 at *
                  try generalize Int32.toInt (57 : Int32) = z3 at *
                  try generalize Int32.toInt (63 : Int32) = z4 at *
                  try generalize Int32.toInt (65 : Int32) = z5 at *
                  try generalize Int32.toInt (90 : Int32) = z6 at *
                  try generalize Int32.toInt (97 : Int32) = z7 at *
                  try generalize Int32.toInt x = z8 at *
                  omega
                subst hR
                exact W.iret (v := 63) hx hb hr (fun t ht hW => ⟨63, rfl, ⟨rfl, e_276⟩, ht.trans hH⟩) t_nil dX9_worth_74
            · rw [if_pos c_258] at hR
              refine lv_bipush (v := 62) hx hb dX9_worth_63 (by decide) ?_
              have e_292 : -1 ≤ (62 : Int32).toInt ∧ (62 : Int32).toInt ≤ 63 := by
                have k_293 : (65 : Int32).toInt = 65 := by decide
                have q_294 := i_nlt c_1
                have k_295 : (90 : Int32).toInt = 90 := by decide
                have q_296 := i_lt c_212
                have k_297 : (97 : Int32).toInt = 97 := by decide
                have q_298 := i_lt c_213
                have k_299 : (48 : Int32).toInt = 48 := by decide
                have q_300 := i_nlt c_214
                have k_301 : (57 : Int32).toInt = 57 := by decide
                have q_302 := i_lt c_257
                have k_303 : (43 : Int32).toInt = 43 := by decide
                have q_304 := i_eq c_258
                have k_305 : (62 : Int32).toInt = 62 := by decide
                try generalize Int32.toInt (43 : Int32) = z0 at *
                try generalize Int32.toInt (48 : Int32) = z1 at *
                try generalize Int32.toInt (57 : Int32) = z2 at *
                try generalize Int32.toInt (62 : Int32) = z3 at *
                try generalize Int32.toInt (65 : Int32) = z4 at *
                try generalize Int32.toInt (90 : Int32) = z5 at *
                try generalize Int32.toInt (97 : Int32) = z6 at *
                try generalize Int32.toInt x = z7 at *
                omega
              subst hR
              exact W.iret (v := 62) hx hb hr (fun t ht hW => ⟨62, rfl, ⟨rfl, e_292⟩, ht.trans hH⟩) t_nil dX9_worth_65
          · rw [if_neg c_257] at hR
            refine lv_iload_n hx hb dX9_worth_49 rfl (lv_at hl 0 rfl) ?_
            refine lv_bipush (v := 48) hx hb dX9_worth_50 (by decide) ?_
            refine lv_isub hx hb dX9_worth_52 ?_
            refine lv_bipush (v := 52) hx hb dX9_worth_53 (by decide) ?_
            refine lv_iadd hx hb dX9_worth_55 ?_
            have e_306 : -1 ≤ (((x - 48) + 52) : Int32).toInt ∧ (((x - 48) + 52) : Int32).toInt ≤ 63 := by
              have k_307 : (65 : Int32).toInt = 65 := by decide
              have q_308 := i_nlt c_1
              have k_309 : (90 : Int32).toInt = 90 := by decide
              have q_310 := i_lt c_212
              have k_311 : (97 : Int32).toInt = 97 := by decide
              have q_312 := i_lt c_213
              have k_313 : (48 : Int32).toInt = 48 := by decide
              have q_314 := i_nlt c_214
              have k_315 : (57 : Int32).toInt = 57 := by decide
              have q_316 := i_nlt c_257
              have t_317 := ti_sub (a := x) (b := 48) (by omega) (by omega)
              have k_318 : (52 : Int32).toInt = 52 := by decide
              have t_319 := ti_add (a := (x - 48)) (b := 52) (by omega) (by omega)
              try generalize Int32.toInt ((x - 48) + 52) = z0 at *
              try generalize Int32.toInt (x - 48) = z1 at *
              try generalize Int32.toInt (48 : Int32) = z2 at *
              try generalize Int32.toInt (52 : Int32) = z3 at *
              try generalize Int32.toInt (57 : Int32) = z4 at *
              try generalize Int32.toInt (65 : Int32) = z5 at *
              try generalize Int32.toInt (90 : Int32) = z6 at *
              try generalize Int32.toInt (97 : Int32) = z7 at *
              try generalize Int32.toInt x = z8 at *
              omega
            subst hR
            exact W.iret (v := ((x - 48) + 52)) hx hb hr (fun t ht hW => ⟨((x - 48) + 52), rfl, ⟨rfl, e_306⟩, ht.trans hH⟩) t_nil dX9_worth_56
      · rw [if_neg c_213] at hR
        refine lv_iload_n hx hb dX9_worth_23 rfl (lv_at hl 0 rfl) ?_
        refine lv_bipush (v := 122) hx hb dX9_worth_24 (by decide) ?_
        refine lv_icmp_gt (tgt := 37) hx hb dX9_worth_26 (by decide) (fun c_320 => ?_) (fun c_320 => ?_)
        · rw [if_pos c_320] at hR
          refine lv_iload_n hx hb dX9_worth_37 rfl (lv_at hl 0 rfl) ?_
          refine lv_bipush (v := 48) hx hb dX9_worth_38 (by decide) ?_
          refine lv_icmp_lt (tgt := 57) hx hb dX9_worth_40 (by decide) (fun c_321 => ?_) (fun c_321 => ?_)
          · rw [if_pos c_321] at hR
            refine lv_iload_n hx hb dX9_worth_57 rfl (lv_at hl 0 rfl) ?_
            refine lv_bipush (v := 43) hx hb dX9_worth_58 (by decide) ?_
            refine lv_icmp_ne (tgt := 66) hx hb dX9_worth_60 (by decide) (fun c_322 => ?_) (fun c_322 => ?_)
            · rw [if_neg c_322] at hR
              refine lv_iload_n hx hb dX9_worth_66 rfl (lv_at hl 0 rfl) ?_
              refine lv_bipush (v := 47) hx hb dX9_worth_67 (by decide) ?_
              refine lv_icmp_ne (tgt := 75) hx hb dX9_worth_69 (by decide) (fun c_323 => ?_) (fun c_323 => ?_)
              · rw [if_neg c_323] at hR
                refine lv_iconst (v := (-1)) hx hb dX9_worth_75 (by decide) ?_
                have e_324 : -1 ≤ ((-1) : Int32).toInt ∧ ((-1) : Int32).toInt ≤ 63 := by
                  have k_325 : (65 : Int32).toInt = 65 := by decide
                  have q_326 := i_nlt c_1
                  have k_327 : (90 : Int32).toInt = 90 := by decide
                  have q_328 := i_lt c_212
                  have k_329 : (97 : Int32).toInt = 97 := by decide
                  have q_330 := i_nlt c_213
                  have k_331 : (122 : Int32).toInt = 122 := by decide
                  have q_332 := i_lt c_320
                  have k_333 : (48 : Int32).toInt = 48 := by decide
                  have q_334 := i_lt c_321
                  have k_335 : (43 : Int32).toInt = 43 := by decide
                  have q_336 := i_ne c_322
                  have k_337 : (47 : Int32).toInt = 47 := by decide
                  have q_338 := i_ne c_323
                  have k_339 : ((-1) : Int32).toInt = -1 := by decide
                  try generalize Int32.toInt ((-1) : Int32) = z0 at *
                  try generalize Int32.toInt (122 : Int32) = z1 at *
                  try generalize Int32.toInt (43 : Int32) = z2 at *
                  try generalize Int32.toInt (47 : Int32) = z3 at *
                  try generalize Int32.toInt (48 : Int32) = z4 at *
                  try generalize Int32.toInt (65 : Int32) = z5 at *
                  try generalize Int32.toInt (90 : Int32) = z6 at *
                  try generalize Int32.toInt (97 : Int32) = z7 at *
                  try generalize Int32.toInt x = z8 at *
                  omega
                subst hR
                exact W.iret (v := (-1)) hx hb hr (fun t ht hW => ⟨(-1), rfl, ⟨rfl, e_324⟩, ht.trans hH⟩) t_nil dX9_worth_76
              · rw [if_pos c_323] at hR
                refine lv_bipush (v := 63) hx hb dX9_worth_72 (by decide) ?_
                have e_340 : -1 ≤ (63 : Int32).toInt ∧ (63 : Int32).toInt ≤ 63 := by
                  have k_341 : (65 : Int32).toInt = 65 := by decide
                  have q_342 := i_nlt c_1
                  have k_343 : (90 : Int32).toInt = 90 := by decide
                  have q_344 := i_lt c_212
                  have k_345 : (97 : Int32).toInt = 97 := by decide
                  have q_346 := i_nlt c_213
                  have k_347 : (122 : Int32).toInt = 122 := by decide
                  have q_348 := i_lt c_320
                  have k_349 : (48 : Int32).toInt = 48 := by decide
                  have q_350 := i_lt c_321
                  have k_351 : (43 : Int32).toInt = 43 := by decide
                  have q_352 := i_ne c_322
                  have k_353 : (47 : Int32).toInt = 47 := by decide
                  have q_354 := i_eq c_323
                  have k_355 : (63 : Int32).toInt = 63 := by decide
                  try generalize Int32.toInt (122 : Int32) = z0 at *
                  try generalize Int32.toInt (43 : Int32) = z1 at *
                  try generalize Int32.toInt (47 : Int32) = z2 at *
                  try generalize Int32.toInt (48 : Int32) = z3 at *
                  try generalize Int32.toInt (63 : Int32) = z4 at *
                  try generalize Int32.toInt (65 : Int32) = z5 at *
                  try generalize Int32.toInt (90 : Int32) = z6 at *
                  try generalize Int32.toInt (97 : Int32) = z7 at *
                  try generalize Int32.toInt x = z8 at *
                  omega
                subst hR
                exact W.iret (v := 63) hx hb hr (fun t ht hW => ⟨63, rfl, ⟨rfl, e_340⟩, ht.trans hH⟩) t_nil dX9_worth_74
            · rw [if_pos c_322] at hR
              refine lv_bipush (v := 62) hx hb dX9_worth_63 (by decide) ?_
              have e_356 : -1 ≤ (62 : Int32).toInt ∧ (62 : Int32).toInt ≤ 63 := by
                have k_357 : (65 : Int32).toInt = 65 := by decide
                have q_358 := i_nlt c_1
                have k_359 : (90 : Int32).toInt = 90 := by decide
                have q_360 := i_lt c_212
                have k_361 : (97 : Int32).toInt = 97 := by decide
                have q_362 := i_nlt c_213
                have k_363 : (122 : Int32).toInt = 122 := by decide
                have q_364 := i_lt c_320
                have k_365 : (48 : Int32).toInt = 48 := by decide
                have q_366 := i_lt c_321
                have k_367 : (43 : Int32).toInt = 43 := by decide
                have q_368 := i_eq c_322
                have k_369 : (62 : Int32).toInt = 62 := by decide
                try generalize Int32.toInt (122 : Int32) = z0 at *
                try generalize Int32.toInt (43 : Int32) = z1 at *
                try generalize Int32.toInt (48 : Int32) = z2 at *
                try generalize Int32.toInt (62 : Int32) = z3 at *
                try generalize Int32.toInt (65 : Int32) = z4 at *
                try generalize Int32.toInt (90 : Int32) = z5 at *
                try generalize Int32.toInt (97 : Int32) = z6 at *
                try generalize Int32.toInt x = z7 at *
                omega
              subst hR
              exact W.iret (v := 62) hx hb hr (fun t ht hW => ⟨62, rfl, ⟨rfl, e_356⟩, ht.trans hH⟩) t_nil dX9_worth_65
          · rw [if_neg c_321] at hR
            refine lv_iload_n hx hb dX9_worth_43 rfl (lv_at hl 0 rfl) ?_
            refine lv_bipush (v := 57) hx hb dX9_worth_44 (by decide) ?_
            refine lv_icmp_gt (tgt := 57) hx hb dX9_worth_46 (by decide) (fun c_370 => ?_) (fun c_370 => ?_)
            · rw [if_pos c_370] at hR
              refine lv_iload_n hx hb dX9_worth_57 rfl (lv_at hl 0 rfl) ?_
              refine lv_bipush (v := 43) hx hb dX9_worth_58 (by decide) ?_
              refine lv_icmp_ne (tgt := 66) hx hb dX9_worth_60 (by decide) (fun c_371 => ?_) (fun c_371 => ?_)
              · rw [if_neg c_371] at hR
                refine lv_iload_n hx hb dX9_worth_66 rfl (lv_at hl 0 rfl) ?_
                refine lv_bipush (v := 47) hx hb dX9_worth_67 (by decide) ?_
                refine lv_icmp_ne (tgt := 75) hx hb dX9_worth_69 (by decide) (fun c_372 => ?_) (fun c_372 => ?_)
                · rw [if_neg c_372] at hR
                  refine lv_iconst (v := (-1)) hx hb dX9_worth_75 (by decide) ?_
                  have e_373 : -1 ≤ ((-1) : Int32).toInt ∧ ((-1) : Int32).toInt ≤ 63 := by
                    have k_374 : (65 : Int32).toInt = 65 := by decide
                    have q_375 := i_nlt c_1
                    have k_376 : (90 : Int32).toInt = 90 := by decide
                    have q_377 := i_lt c_212
                    have k_378 : (97 : Int32).toInt = 97 := by decide
                    have q_379 := i_nlt c_213
                    have k_380 : (122 : Int32).toInt = 122 := by decide
                    have q_381 := i_lt c_320
                    have k_382 : (48 : Int32).toInt = 48 := by decide
                    have q_383 := i_nlt c_321
                    have k_384 : (57 : Int32).toInt = 57 := by decide
                    have q_385 := i_lt c_370
                    have k_386 : (43 : Int32).toInt = 43 := by decide
                    have q_387 := i_ne c_371
                    have k_388 : (47 : Int32).toInt = 47 := by decide
                    have q_389 := i_ne c_372
                    have k_390 : ((-1) : Int32).toInt = -1 := by decide
                    try generalize Int32.toInt ((-1) : Int32) = z0 at *
                    try generalize Int32.toInt (122 : Int32) = z1 at *
                    try generalize Int32.toInt (43 : Int32) = z2 at *
                    try generalize Int32.toInt (47 : Int32) = z3 at *
                    try generalize Int32.toInt (48 : Int32) = z4 at *
                    try generalize Int32.toInt (57 : Int32) = z5 at *
                    try generalize Int32.toInt (65 : Int32) = z6 at *
                    try generalize Int32.toInt (90 : Int32) = z7 at *
                    try generalize Int32.toInt (97 : Int32) = z8 at *
                    try generalize Int32.toInt x = z9 at *
                    omega
                  subst hR
                  exact W.iret (v := (-1)) hx hb hr (fun t ht hW => ⟨(-1), rfl, ⟨rfl, e_373⟩, ht.trans hH⟩) t_nil dX9_worth_76
                · rw [if_pos c_372] at hR
                  refine lv_bipush (v := 63) hx hb dX9_worth_72 (by decide) ?_
                  have e_391 : -1 ≤ (63 : Int32).toInt ∧ (63 : Int32).toInt ≤ 63 := by
                    have k_392 : (65 : Int32).toInt = 65 := by decide
                    have q_393 := i_nlt c_1
                    have k_394 : (90 : Int32).toInt = 90 := by decide
                    have q_395 := i_lt c_212
                    have k_396 : (97 : Int32).toInt = 97 := by decide
                    have q_397 := i_nlt c_213
                    have k_398 : (122 : Int32).toInt = 122 := by decide
                    have q_399 := i_lt c_320
                    have k_400 : (48 : Int32).toInt = 48 := by decide
                    have q_401 := i_nlt c_321
                    have k_402 : (57 : Int32).toInt = 57 := by decide
                    have q_403 := i_lt c_370
                    have k_404 : (43 : Int32).toInt = 43 := by decide
                    have q_405 := i_ne c_371
                    have k_406 : (47 : Int32).toInt = 47 := by decide
                    have q_407 := i_eq c_372
                    have k_408 : (63 : Int32).toInt = 63 := by decide
                    try generalize Int32.toInt (122 : Int32) = z0 at *
                    try generalize Int32.toInt (43 : Int32) = z1 at *
                    try generalize Int32.toInt (47 : Int32) = z2 at *
                    try generalize Int32.toInt (48 : Int32) = z3 at *
                    try generalize Int32.toInt (57 : Int32) = z4 at *
                    try generalize Int32.toInt (63 : Int32) = z5 at *
                    try generalize Int32.toInt (65 : Int32) = z6 at *
                    try generalize Int32.toInt (90 : Int32) = z7 at *
                    try generalize Int32.toInt (97 : Int32) = z8 at *
                    try generalize Int32.toInt x = z9 at *
                    omega
                  subst hR
                  exact W.iret (v := 63) hx hb hr (fun t ht hW => ⟨63, rfl, ⟨rfl, e_391⟩, ht.trans hH⟩) t_nil dX9_worth_74
              · rw [if_pos c_371] at hR
                refine lv_bipush (v := 62) hx hb dX9_worth_63 (by decide) ?_
                have e_409 : -1 ≤ (62 : Int32).toInt ∧ (62 : Int32).toInt ≤ 63 := by
                  have k_410 : (65 : Int32).toInt = 65 := by decide
                  have q_411 := i_nlt c_1
                  have k_412 : (90 : Int32).toInt = 90 := by decide
                  have q_413 := i_lt c_212
                  have k_414 : (97 : Int32).toInt = 97 := by decide
                  have q_415 := i_nlt c_213
                  have k_416 : (122 : Int32).toInt = 122 := by decide
                  have q_417 := i_lt c_320
                  have k_418 : (48 : Int32).toInt = 48 := by decide
                  have q_419 := i_nlt c_321
                  have k_420 : (57 : Int32).toInt = 57 := by decide
                  have q_421 := i_lt c_370
                  have k_422 : (43 : Int32).toInt = 43 := by decide
                  have q_423 := i_eq c_371
                  have k_424 : (62 : Int32).toInt = 62 := by decide
                  try generalize Int32.toInt (122 : Int32) = z0 at *
                  try generalize Int32.toInt (43 : Int32) = z1 at *
                  try generalize Int32.toInt (48 : Int32) = z2 at *
                  try generalize Int32.toInt (57 : Int32) = z3 at *
                  try generalize Int32.toInt (62 : Int32) = z4 at *
                  try generalize Int32.toInt (65 : Int32) = z5 at *
                  try generalize Int32.toInt (90 : Int32) = z6 at *
                  try generalize Int32.toInt (97 : Int32) = z7 at *
                  try generalize Int32.toInt x = z8 at *
                  omega
                subst hR
                exact W.iret (v := 62) hx hb hr (fun t ht hW => ⟨62, rfl, ⟨rfl, e_409⟩, ht.trans hH⟩) t_nil dX9_worth_65
            · rw [if_neg c_370] at hR
              refine lv_iload_n hx hb dX9_worth_49 rfl (lv_at hl 0 rfl) ?_
              refine lv_bipush (v := 48) hx hb dX9_worth_50 (by decide) ?_
              refine lv_isub hx hb dX9_worth_52 ?_
              refine lv_bipush (v := 52) hx hb dX9_worth_53 (by decide) ?_
              refine lv_iadd hx hb dX9_worth_55 ?_
              have e_425 : -1 ≤ (((x - 48) + 52) : Int32).toInt ∧ (((x - 48) + 52) : Int32).toInt ≤ 63 := by
                have k_426 : (65 : Int32).toInt = 65 := by decide
                have q_427 := i_nlt c_1
                have k_428 : (90 : Int32).toInt = 90 := by decide
                have q_429 := i_lt c_212
                have k_430 : (97 : Int32).toInt = 97 := by decide
                have q_431 := i_nlt c_213
                have k_432 : (122 : Int32).toInt = 122 := by decide
                have q_433 := i_lt c_320
                have k_434 : (48 : Int32).toInt = 48 := by decide
                have q_435 := i_nlt c_321
                have k_436 : (57 : Int32).toInt = 57 := by decide
                have q_437 := i_nlt c_370
                have t_438 := ti_sub (a := x) (b := 48) (by omega) (by omega)
                have k_439 : (52 : Int32).toInt = 52 := by decide
                have t_440 := ti_add (a := (x - 48)) (b := 52) (by omega) (by omega)
                try generalize Int32.toInt ((x - 48) + 52) = z0 at *
                try generalize Int32.toInt (x - 48) = z1 at *
                try generalize Int32.toInt (122 : Int32) = z2 at *
                try generalize Int32.toInt (48 : Int32) = z3 at *
                try generalize Int32.toInt (52 : Int32) = z4 at *
                try generalize Int32.toInt (57 : Int32) = z5 at *
                try generalize Int32.toInt (65 : Int32) = z6 at *
                try generalize Int32.toInt (90 : Int32) = z7 at *
                try generalize Int32.toInt (97 : Int32) = z8 at *
                try generalize Int32.toInt x = z9 at *
                omega
              subst hR
              exact W.iret (v := ((x - 48) + 52)) hx hb hr (fun t ht hW => ⟨((x - 48) + 52), rfl, ⟨rfl, e_425⟩, ht.trans hH⟩) t_nil dX9_worth_56
        · rw [if_neg c_320] at hR
          refine lv_iload_n hx hb dX9_worth_29 rfl (lv_at hl 0 rfl) ?_
          refine lv_bipush (v := 97) hx hb dX9_worth_30 (by decide) ?_
          refine lv_isub hx hb dX9_worth_32 ?_
          refine lv_bipush (v := 26) hx hb dX9_worth_33 (by decide) ?_
          refine lv_iadd hx hb dX9_worth_35 ?_
          have e_441 : -1 ≤ (((x - 97) + 26) : Int32).toInt ∧ (((x - 97) + 26) : Int32).toInt ≤ 63 := by
            have k_442 : (65 : Int32).toInt = 65 := by decide
            have q_443 := i_nlt c_1
            have k_444 : (90 : Int32).toInt = 90 := by decide
            have q_445 := i_lt c_212
            have k_446 : (97 : Int32).toInt = 97 := by decide
            have q_447 := i_nlt c_213
            have k_448 : (122 : Int32).toInt = 122 := by decide
            have q_449 := i_nlt c_320
            have t_450 := ti_sub (a := x) (b := 97) (by omega) (by omega)
            have k_451 : (26 : Int32).toInt = 26 := by decide
            have t_452 := ti_add (a := (x - 97)) (b := 26) (by omega) (by omega)
            try generalize Int32.toInt ((x - 97) + 26) = z0 at *
            try generalize Int32.toInt (x - 97) = z1 at *
            try generalize Int32.toInt (122 : Int32) = z2 at *
            try generalize Int32.toInt (26 : Int32) = z3 at *
            try generalize Int32.toInt (65 : Int32) = z4 at *
            try generalize Int32.toInt (90 : Int32) = z5 at *
            try generalize Int32.toInt (97 : Int32) = z6 at *
            try generalize Int32.toInt x = z7 at *
            omega
          subst hR
          exact W.iret (v := ((x - 97) + 26)) hx hb hr (fun t ht hW => ⟨((x - 97) + 26), rfl, ⟨rfl, e_441⟩, ht.trans hH⟩) t_nil dX9_worth_36
    · rw [if_neg c_212] at hR
      refine lv_iload_n hx hb dX9_worth_12 rfl (lv_at hl 0 rfl) ?_
      refine lv_bipush (v := 65) hx hb dX9_worth_13 (by decide) ?_
      refine lv_isub hx hb dX9_worth_15 ?_
      have e_453 : -1 ≤ ((x - 65) : Int32).toInt ∧ ((x - 65) : Int32).toInt ≤ 63 := by
        have k_454 : (65 : Int32).toInt = 65 := by decide
        have q_455 := i_nlt c_1
        have k_456 : (90 : Int32).toInt = 90 := by decide
        have q_457 := i_nlt c_212
        have t_458 := ti_sub (a := x) (b := 65) (by omega) (by omega)
        try generalize Int32.toInt (x - 65) = z0 at *
        try generalize Int32.toInt (65 : Int32) = z1 at *
        try generalize Int32.toInt (90 : Int32) = z2 at *
        try generalize Int32.toInt x = z3 at *
        omega
      subst hR
      exact W.iret (v := (x - 65)) hx hb hr (fun t ht hW => ⟨(x - 65), rfl, ⟨rfl, e_453⟩, ht.trans hH⟩) t_nil dX9_worth_16

def fX9_letter (x : Int32) : Int32 :=
  if 26 ≤ x then
    if 52 ≤ x then
      if 62 ≤ x then
        if x = 62 then
          43
        else
          47
      else
        ((48 + x) - 52)
    else
      ((97 + x) - 26)
  else
    (65 + x)
set_option maxHeartbeats 4000000 in
set_option maxRecDepth 100000 in
theorem c_X9_letter (l : Launch) (dC : Nat → ClassId) (dI : Nat → Nat → Nat) (cB cC cI cJ : ClassId) (sz : Nat) (x : Int32) : Met l yX9_letter wsX9_letter ({ frames := 0, cells := 0, slots := 0, locals := 0 } : Room) (cP dC dI cB cC cI cJ [.int x] sz []) (vp_Si (fun r => r = (fX9_letter x))) 0 0 (fun _ => False) := by
  refine Met.ofW (cc := cX9_letter) (maxL := 1) (ret := (some .int)) (by decide) rfl ?_
  intro p e s m args below meth c s₁ B hml hv
  obtain ⟨rfl, hsz, hP, hG, hD0⟩ := hv
  have hx := B.exec
  have hb := B.bytes
  have hr := B.returns
  have hts := atoms_spec (ws := wsX9_letter) B.pre
  have hown : s.vm.findClass RX9 = some m.cls := findClass_of_methodNamed B.named
  have hlocks := B.notSynchronized
  subst hsz
  obtain ⟨H, hH⟩ : ∃ H : Heap, H = s.heap := ⟨_, rfl⟩
  rw [← hH] at hP ⊢
  generalize hR : fX9_letter x = R
  unfold fX9_letter at hR
  have hl := lv_entry ([.int x]) (n := 1) (Nat.le_of_ble_eq_true rfl)
  rw [lg_entry_eq]
  generalize (lg_sl ([.int x]) ++ List.replicate (1 - (lg_sl ([.int x])).length) Slot.unset).toArray = ls at hl ⊢
  have hl : lv_has ls 1 [(0, .int x)] := hl
  refine lv_iload_n hx hb dX9_letter_0 rfl (lv_at hl 0 rfl) ?_
  refine lv_bipush (v := 26) hx hb dX9_letter_1 (by decide) ?_
  refine lv_icmp_ge (tgt := 11) hx hb dX9_letter_3 (by decide) (fun c_1 => ?_) (fun c_1 => ?_)
  · rw [if_pos c_1] at hR
    refine lv_iload_n hx hb dX9_letter_11 rfl (lv_at hl 0 rfl) ?_
    refine lv_bipush (v := 52) hx hb dX9_letter_12 (by decide) ?_
    refine lv_icmp_ge (tgt := 25) hx hb dX9_letter_14 (by decide) (fun c_2 => ?_) (fun c_2 => ?_)
    · rw [if_pos c_2] at hR
      refine lv_iload_n hx hb dX9_letter_25 rfl (lv_at hl 0 rfl) ?_
      refine lv_bipush (v := 62) hx hb dX9_letter_26 (by decide) ?_
      refine lv_icmp_ge (tgt := 39) hx hb dX9_letter_28 (by decide) (fun c_3 => ?_) (fun c_3 => ?_)
      · rw [if_pos c_3] at hR
        refine lv_iload_n hx hb dX9_letter_39 rfl (lv_at hl 0 rfl) ?_
        refine lv_bipush (v := 62) hx hb dX9_letter_40 (by decide) ?_
        refine lv_icmp_ne (tgt := 50) hx hb dX9_letter_42 (by decide) (fun c_4 => ?_) (fun c_4 => ?_)
        · rw [if_neg c_4] at hR
          refine lv_bipush (v := 47) hx hb dX9_letter_50 (by decide) ?_
          subst hR
          exact W.iret (v := 47) hx hb hr (fun t ht hW => ⟨47, rfl, rfl, ht.trans hH⟩) t_nil dX9_letter_52
        · rw [if_pos c_4] at hR
          refine lv_bipush (v := 43) hx hb dX9_letter_45 (by decide) ?_
          refine lv_goto (tgt := 52) hx hb dX9_letter_47 (by decide) ?_
          subst hR
          exact W.iret (v := 43) hx hb hr (fun t ht hW => ⟨43, rfl, rfl, ht.trans hH⟩) t_nil dX9_letter_52
      · rw [if_neg c_3] at hR
        refine lv_bipush (v := 48) hx hb dX9_letter_31 (by decide) ?_
        refine lv_iload_n hx hb dX9_letter_33 rfl (lv_at hl 0 rfl) ?_
        refine lv_iadd hx hb dX9_letter_34 ?_
        refine lv_bipush (v := 52) hx hb dX9_letter_35 (by decide) ?_
        refine lv_isub hx hb dX9_letter_37 ?_
        subst hR
        exact W.iret (v := ((48 + x) - 52)) hx hb hr (fun t ht hW => ⟨((48 + x) - 52), rfl, rfl, ht.trans hH⟩) t_nil dX9_letter_38
    · rw [if_neg c_2] at hR
      refine lv_bipush (v := 97) hx hb dX9_letter_17 (by decide) ?_
      refine lv_iload_n hx hb dX9_letter_19 rfl (lv_at hl 0 rfl) ?_
      refine lv_iadd hx hb dX9_letter_20 ?_
      refine lv_bipush (v := 26) hx hb dX9_letter_21 (by decide) ?_
      refine lv_isub hx hb dX9_letter_23 ?_
      subst hR
      exact W.iret (v := ((97 + x) - 26)) hx hb hr (fun t ht hW => ⟨((97 + x) - 26), rfl, rfl, ht.trans hH⟩) t_nil dX9_letter_24
  · rw [if_neg c_1] at hR
    refine lv_bipush (v := 65) hx hb dX9_letter_6 (by decide) ?_
    refine lv_iload_n hx hb dX9_letter_8 rfl (lv_at hl 0 rfl) ?_
    refine lv_iadd hx hb dX9_letter_9 ?_
    subst hR
    exact W.iret (v := (65 + x)) hx hb hr (fun t ht hW => ⟨(65 + x), rfl, rfl, ht.trans hH⟩) t_nil dX9_letter_10

def fX9_within (x y : Int64) : Int32 :=
  if (lg_cmp x 0) < 0 then
    0
  else
    if 0 < (lg_cmp x y) then
      0
    else
      1
set_option maxHeartbeats 4000000 in
set_option maxRecDepth 100000 in
theorem c_X9_within (l : Launch) (dC : Nat → ClassId) (dI : Nat → Nat → Nat) (cB cC cI cJ : ClassId) (sz : Nat) (x y : Int64) : Met l yX9_within wsX9_within ({ frames := 0, cells := 0, slots := 0, locals := 0 } : Room) (cP dC dI cB cC cI cJ [.long x, .long y] sz []) (vp_Si (fun r => r = (fX9_within x y))) 0 0 (fun _ => False) := by
  refine Met.ofW (cc := cX9_within) (maxL := 4) (ret := (some .boolean)) (by decide) rfl ?_
  intro p e s m args below meth c s₁ B hml hv
  obtain ⟨rfl, hsz, hP, hG, hD0⟩ := hv
  have hx := B.exec
  have hb := B.bytes
  have hr := B.returns
  have hts := atoms_spec (ws := wsX9_within) B.pre
  have hown : s.vm.findClass RX9 = some m.cls := findClass_of_methodNamed B.named
  have hlocks := B.notSynchronized
  subst hsz
  obtain ⟨H, hH⟩ : ∃ H : Heap, H = s.heap := ⟨_, rfl⟩
  rw [← hH] at hP ⊢
  generalize hR : fX9_within x y = R
  unfold fX9_within at hR
  have hl := lv_entry ([.long x, .long y]) (n := 4) (Nat.le_of_ble_eq_true rfl)
  rw [lg_entry_eq]
  generalize (lg_sl ([.long x, .long y]) ++ List.replicate (4 - (lg_sl ([.long x, .long y])).length) Slot.unset).toArray = ls at hl ⊢
  have hl : lv_has ls 4 [(0, .long x), (2, .long y)] := hl
  refine lv_lload_n hx hb dX9_within_0 rfl (lv_at hl 0 rfl) ?_
  refine lv_lconst (v := 0) hx hb dX9_within_1 (by decide) ?_
  refine W.lcmp hx hb dX9_within_2 ?_
  refine lv_if_lt (tgt := 16) hx hb dX9_within_3 (by decide) (fun c_1 => ?_) (fun c_1 => ?_)
  · rw [if_pos c_1] at hR
    refine lv_iconst (v := 0) hx hb dX9_within_16 (by decide) ?_
    subst hR
    exact W.zret (v := 0) hx hb hr rfl (fun t ht hW => ⟨0, rfl, rfl, ht.trans hH⟩) t_nil dX9_within_17
  · rw [if_neg c_1] at hR
    refine lv_lload_n hx hb dX9_within_6 rfl (lv_at hl 0 rfl) ?_
    refine lv_lload_n hx hb dX9_within_7 rfl (lv_at hl 1 rfl) ?_
    refine W.lcmp hx hb dX9_within_8 ?_
    refine lv_if_gt (tgt := 16) hx hb dX9_within_9 (by decide) (fun c_2 => ?_) (fun c_2 => ?_)
    · rw [if_pos c_2] at hR
      refine lv_iconst (v := 0) hx hb dX9_within_16 (by decide) ?_
      subst hR
      exact W.zret (v := 0) hx hb hr rfl (fun t ht hW => ⟨0, rfl, rfl, ht.trans hH⟩) t_nil dX9_within_17
    · rw [if_neg c_2] at hR
      refine lv_iconst (v := 1) hx hb dX9_within_12 (by decide) ?_
      refine lv_goto (tgt := 17) hx hb dX9_within_13 (by decide) ?_
      subst hR
      exact W.zret (v := 1) hx hb hr rfl (fun t ht hW => ⟨1, rfl, rfl, ht.trans hH⟩) t_nil dX9_within_17

theorem narz {v : Int32} (h : v = 0) : narrow .boolean (.int v) = .int v := by rw [h]; rfl

def fX9_fails (th dc tl xl fo fa mn ft wl : Int32) (x y : Int32) : Int32 × Int32 × Int32 :=
  (0, x, y)
theorem inc_X9_fails_9 : ∀ w ∈ u_ws RX9 TX9 17, w ∈ wsX9_fails := by decide +kernel
set_option maxHeartbeats 4000000 in
set_option maxRecDepth 100000 in
theorem c_X9_fails (l : Launch) (dC : Nat → ClassId) (dI : Nat → Nat → Nat) (cB cC cI cJ : ClassId) (sz : Nat) (h0 a0 a1 a2 a3 a4 a5 a6 a7 : Nat) (th dc tl xl fo fa mn ft wl : Int32) (x y : Int32) : Met l yX9_fails wsX9_fails ({ frames := 0, cells := 0, slots := 0, locals := 0 } : Room) (cP dC dI cB cC cI cJ [.ref h0, .int x, .int y] sz [(h0, .inr (9, [.int th, .ref a0, .ref a1, .ref a2, .int dc, .ref a3, .int tl, .ref a4, .int xl, .int fo, .int fa, .ref a5, .int mn, .ref a6, .int ft, .ref a7, .int wl]))]) (va_Qi (fun r _ => r = (fX9_fails th dc tl xl fo fa mn ft wl x y).1 ∧ ((fX9_fails th dc tl xl fo fa mn ft wl x y).1 = 0)) (cE dC dI (va_A [(h0, .inr (9, [.int th, .ref a0, .ref a1, .ref a2, .int dc, .ref a3, .int tl, .ref a4, .int xl, .int fo, .int fa, .ref a5, .int mn, .ref a6, .int ft, .ref a7, .int wl]))] sz) [(h0, .inr (9, [.int th, .ref a0, .ref a1, .ref a2, .int dc, .ref a3, .int tl, .ref a4, .int xl, .int (fX9_fails th dc tl xl fo fa mn ft wl x y).2.1, .int (fX9_fails th dc tl xl fo fa mn ft wl x y).2.2, .ref a5, .int mn, .ref a6, .int ft, .ref a7, .int wl]))]) (va_A [(h0, .inr (9, [.int th, .ref a0, .ref a1, .ref a2, .int dc, .ref a3, .int tl, .ref a4, .int xl, .int fo, .int fa, .ref a5, .int mn, .ref a6, .int ft, .ref a7, .int wl]))] sz)) 0 0 (va_A [(h0, .inr (9, [.int th, .ref a0, .ref a1, .ref a2, .int dc, .ref a3, .int tl, .ref a4, .int xl, .int fo, .int fa, .ref a5, .int mn, .ref a6, .int ft, .ref a7, .int wl]))] sz) := by
  refine Met.ofW (cc := cX9_fails) (maxL := 3) (ret := (some .boolean)) (by decide) rfl ?_
  intro p e s m args below meth c s₁ B hml hv
  obtain ⟨rfl, hsz, hP, hG, hD0⟩ := hv
  have hx := B.exec
  have hb := B.bytes
  have hr := B.returns
  have hts := atoms_spec (ws := wsX9_fails) B.pre
  have hown : s.vm.findClass RX9 = some m.cls := findClass_of_methodNamed B.named
  have hlocks := B.notSynchronized
  subst hsz
  have hD := hD0.self (sz := s.heap.size)
  generalize hAe : va_A [(h0, .inr (9, [.int th, .ref a0, .ref a1, .ref a2, .int dc, .ref a3, .int tl, .ref a4, .int xl, .int fo, .int fa, .ref a5, .int mn, .ref a6, .int ft, .ref a7, .int wl]))] s.heap.size = A at hD ⊢
  have hA : ∀ q : Nat, s.heap.size ≤ q → A q := fun q h => by rw [← hAe]; exact Or.inr h
  obtain ⟨H, hH⟩ : ∃ H : Heap, H = s.heap := ⟨_, rfl⟩
  have hS : va_S A s.heap H [] := by rw [hH]; exact va_S.rf
  rw [← hH] at hP ⊢
  generalize hR : fX9_fails th dc tl xl fo fa mn ft wl x y = R
  unfold fX9_fails at hR
  have hl := lv_entry ([.ref h0, .int x, .int y]) (n := 3) (Nat.le_of_ble_eq_true rfl)
  rw [lg_entry_eq]
  generalize (lg_sl ([.ref h0, .int x, .int y]) ++ List.replicate (3 - (lg_sl ([.ref h0, .int x, .int y])).length) Slot.unset).toArray = ls at hl ⊢
  have hl : lv_has ls 3 [(0, .ref h0), (1, .int x), (2, .int y)] := hl
  refine lv_aload_n hx hb dX9_fails_0 rfl (lv_at hl 0 rfl) ?_
  refine lv_iload_n hx hb dX9_fails_1 rfl (lv_at hl 1 rfl) ?_
  refine va_put (D := (dC, dI)) (ci := 9) (v := .int x) (ty := .int) (C := RX9) (T := TX9) (N := 17) hx hb hts inc_X9_fails_9 tyX9 tyX9_ok nmX9 hown hG.1 hP hD hS 0 rfl rfl 9 (by decide) (hts (.fieldLink RX9 39 "MappingDeskModel" "faultOf" "I") (by decide +kernel)) (fun _ h9 => h9) rfl (by decide +kernel) rfl rfl (Nat.le_of_ble_eq_true rfl) dX9_fails_2 (fun H locs hP hD hS => ?_)
  have hP : va_P (dC, dI) vwCl [(h0, .inr (9, [.int th, .ref a0, .ref a1, .ref a2, .int dc, .ref a3, .int tl, .ref a4, .int xl, .int x, .int fa, .ref a5, .int mn, .ref a6, .int ft, .ref a7, .int wl]))] H := hP
  have hD : va_D A [(h0, .inr (9, [.int th, .ref a0, .ref a1, .ref a2, .int dc, .ref a3, .int tl, .ref a4, .int xl, .int x, .int fa, .ref a5, .int mn, .ref a6, .int ft, .ref a7, .int wl]))] := hD
  refine lv_aload_n hx hb dX9_fails_5 rfl (lv_at hl 0 rfl) ?_
  refine lv_iload_n hx hb dX9_fails_6 rfl (lv_at hl 2 rfl) ?_
  refine va_put (D := (dC, dI)) (ci := 9) (v := .int y) (ty := .int) (C := RX9) (T := TX9) (N := 17) hx hb hts inc_X9_fails_9 tyX9 tyX9_ok nmX9 hown hG.1 hP hD hS 0 rfl rfl 10 (by decide) (hts (.fieldLink RX9 42 "MappingDeskModel" "faultAt" "I") (by decide +kernel)) (fun _ h9 => h9) rfl (by decide +kernel) rfl rfl (Nat.le_of_ble_eq_true rfl) dX9_fails_7 (fun H locs hP hD hS => ?_)
  have hP : va_P (dC, dI) vwCl [(h0, .inr (9, [.int th, .ref a0, .ref a1, .ref a2, .int dc, .ref a3, .int tl, .ref a4, .int xl, .int x, .int y, .ref a5, .int mn, .ref a6, .int ft, .ref a7, .int wl]))] H := hP
  have hD : va_D A [(h0, .inr (9, [.int th, .ref a0, .ref a1, .ref a2, .int dc, .ref a3, .int tl, .ref a4, .int xl, .int x, .int y, .ref a5, .int mn, .ref a6, .int ft, .ref a7, .int wl]))] := hD
  refine lv_iconst (v := 0) hx hb dX9_fails_10 (by decide) ?_
  have e_1 : (0 : Int32) = 0 := by
    rfl
  subst hR
  exact W.zret (v := 0) hx hb hr rfl (fun t ht hW => ⟨⟨0, (), rfl, ⟨rfl, e_1⟩, by rw [ht]; exact hP, hD⟩, hS.F ht⟩) hS.2.2 dX9_fails_11

def fX9_end (th dc tl xl fo fa mn ft wl : Int32) (x : Int32) : Int32 × Int32 × Int32 :=
  if x < 0 then
    (0, 0, tl)
  else
    if x ≤ tl then
      (1, 0, x)
    else
      (0, 0, tl)
theorem inc_X9_end_9 : ∀ w ∈ u_ws RX9 TX9 17, w ∈ wsX9_end := by decide +kernel
set_option maxHeartbeats 4000000 in
set_option maxRecDepth 100000 in
theorem c_X9_end (l : Launch) (dC : Nat → ClassId) (dI : Nat → Nat → Nat) (cB cC cI cJ : ClassId) (sz : Nat) (h0 a0 a1 a2 a3 a4 a5 a6 a7 : Nat) (th dc tl xl fo fa mn ft wl : Int32) (x : Int32) : Met l yX9_end wsX9_end ({ frames := 0, cells := 0, slots := 0, locals := 0 } : Room) (cP dC dI cB cC cI cJ [.ref h0, .int x] sz [(h0, .inr (9, [.int th, .ref a0, .ref a1, .ref a2, .int dc, .ref a3, .int tl, .ref a4, .int xl, .int fo, .int fa, .ref a5, .int mn, .ref a6, .int ft, .ref a7, .int wl]))]) (va_Qi (fun r _ => r = (fX9_end th dc tl xl fo fa mn ft wl x).1) (cE dC dI (va_A [(h0, .inr (9, [.int th, .ref a0, .ref a1, .ref a2, .int dc, .ref a3, .int tl, .ref a4, .int xl, .int fo, .int fa, .ref a5, .int mn, .ref a6, .int ft, .ref a7, .int wl]))] sz) [(h0, .inr (9, [.int (fX9_end th dc tl xl fo fa mn ft wl x).2.1, .ref a0, .ref a1, .ref a2, .int dc, .ref a3, .int (fX9_end th dc tl xl fo fa mn ft wl x).2.2, .ref a4, .int xl, .int fo, .int fa, .ref a5, .int mn, .ref a6, .int ft, .ref a7, .int wl]))]) (va_A [(h0, .inr (9, [.int th, .ref a0, .ref a1, .ref a2, .int dc, .ref a3, .int tl, .ref a4, .int xl, .int fo, .int fa, .ref a5, .int mn, .ref a6, .int ft, .ref a7, .int wl]))] sz)) 0 0 (va_A [(h0, .inr (9, [.int th, .ref a0, .ref a1, .ref a2, .int dc, .ref a3, .int tl, .ref a4, .int xl, .int fo, .int fa, .ref a5, .int mn, .ref a6, .int ft, .ref a7, .int wl]))] sz) := by
  refine Met.ofW (cc := cX9_end) (maxL := 2) (ret := (some .boolean)) (by decide) rfl ?_
  intro p e s m args below meth c s₁ B hml hv
  obtain ⟨rfl, hsz, hP, hG, hD0⟩ := hv
  have hx := B.exec
  have hb := B.bytes
  have hr := B.returns
  have hts := atoms_spec (ws := wsX9_end) B.pre
  have hown : s.vm.findClass RX9 = some m.cls := findClass_of_methodNamed B.named
  have hlocks := B.notSynchronized
  subst hsz
  have hD := hD0.self (sz := s.heap.size)
  generalize hAe : va_A [(h0, .inr (9, [.int th, .ref a0, .ref a1, .ref a2, .int dc, .ref a3, .int tl, .ref a4, .int xl, .int fo, .int fa, .ref a5, .int mn, .ref a6, .int ft, .ref a7, .int wl]))] s.heap.size = A at hD ⊢
  have hA : ∀ q : Nat, s.heap.size ≤ q → A q := fun q h => by rw [← hAe]; exact Or.inr h
  obtain ⟨H, hH⟩ : ∃ H : Heap, H = s.heap := ⟨_, rfl⟩
  have hS : va_S A s.heap H [] := by rw [hH]; exact va_S.rf
  rw [← hH] at hP ⊢
  generalize hR : fX9_end th dc tl xl fo fa mn ft wl x = R
  unfold fX9_end at hR
  have hl := lv_entry ([.ref h0, .int x]) (n := 2) (Nat.le_of_ble_eq_true rfl)
  rw [lg_entry_eq]
  generalize (lg_sl ([.ref h0, .int x]) ++ List.replicate (2 - (lg_sl ([.ref h0, .int x])).length) Slot.unset).toArray = ls at hl ⊢
  have hl : lv_has ls 2 [(0, .ref h0), (1, .int x)] := hl
  refine lv_aload_n hx hb dX9_end_0 rfl (lv_at hl 0 rfl) ?_
  refine lv_iconst (v := 0) hx hb dX9_end_1 (by decide) ?_
  refine va_put (D := (dC, dI)) (ci := 9) (v := .int 0) (ty := .int) (C := RX9) (T := TX9) (N := 17) hx hb hts inc_X9_end_9 tyX9 tyX9_ok nmX9 hown hG.1 hP hD hS 0 rfl rfl 0 (by decide) (hts (.fieldLink RX9 7 "MappingDeskModel" "thrownCode" "I") (by decide +kernel)) (fun _ h9 => h9) rfl (by decide +kernel) rfl rfl (Nat.le_of_ble_eq_true rfl) dX9_end_2 (fun H locs hP hD hS => ?_)
  have hP : va_P (dC, dI) vwCl [(h0, .inr (9, [.int 0, .ref a0, .ref a1, .ref a2, .int dc, .ref a3, .int tl, .ref a4, .int xl, .int fo, .int fa, .ref a5, .int mn, .ref a6, .int ft, .ref a7, .int wl]))] H := hP
  have hD : va_D A [(h0, .inr (9, [.int 0, .ref a0, .ref a1, .ref a2, .int dc, .ref a3, .int tl, .ref a4, .int xl, .int fo, .int fa, .ref a5, .int mn, .ref a6, .int ft, .ref a7, .int wl]))] := hD
  refine lv_iload_n hx hb dX9_end_5 rfl (lv_at hl 1 rfl) ?_
  refine lv_if_lt (tgt := 17) hx hb dX9_end_6 (by decide) (fun c_1 => ?_) (fun c_1 => ?_)
  · rw [if_pos c_1] at hR
    refine lv_iconst (v := 0) hx hb dX9_end_17 (by decide) ?_
    subst hR
    exact W.zret (v := 0) hx hb hr rfl (fun t ht hW => ⟨⟨0, (), rfl, rfl, by rw [ht]; exact hP, hD⟩, hS.F ht⟩) hS.2.2 dX9_end_18
  · rw [if_neg c_1] at hR
    refine lv_iload_n hx hb dX9_end_9 rfl (lv_at hl 1 rfl) ?_
    refine lv_aload_n hx hb dX9_end_10 rfl (lv_at hl 0 rfl) ?_
    refine va_get (D := (dC, dI)) (ci := 9) (v := .int tl) (C := RX9) (T := TX9) (N := 17) hx hb hts inc_X9_end_9 hown hG.1 hP 0 rfl rfl 6 (by decide) (hts (.fieldLink RX9 30 "MappingDeskModel" "tapeLen" "I") (by decide +kernel)) (fun _ h9 => h9) rfl dX9_end_11 ?_
    refine lv_icmp_le (tgt := 19) hx hb dX9_end_14 (by decide) (fun c_2 => ?_) (fun c_2 => ?_)
    · rw [if_pos c_2] at hR
      refine lv_aload_n hx hb dX9_end_19 rfl (lv_at hl 0 rfl) ?_
      refine lv_iload_n hx hb dX9_end_20 rfl (lv_at hl 1 rfl) ?_
      refine va_put (D := (dC, dI)) (ci := 9) (v := .int x) (ty := .int) (C := RX9) (T := TX9) (N := 17) hx hb hts inc_X9_end_9 tyX9 tyX9_ok nmX9 hown hG.1 hP hD hS 0 rfl rfl 6 (by decide) (hts (.fieldLink RX9 30 "MappingDeskModel" "tapeLen" "I") (by decide +kernel)) (fun _ h9 => h9) rfl (by decide +kernel) rfl rfl (Nat.le_of_ble_eq_true rfl) dX9_end_21 (fun H locs hP hD hS => ?_)
      have hP : va_P (dC, dI) vwCl [(h0, .inr (9, [.int 0, .ref a0, .ref a1, .ref a2, .int dc, .ref a3, .int x, .ref a4, .int xl, .int fo, .int fa, .ref a5, .int mn, .ref a6, .int ft, .ref a7, .int wl]))] H := hP
      have hD : va_D A [(h0, .inr (9, [.int 0, .ref a0, .ref a1, .ref a2, .int dc, .ref a3, .int x, .ref a4, .int xl, .int fo, .int fa, .ref a5, .int mn, .ref a6, .int ft, .ref a7, .int wl]))] := hD
      refine lv_iconst (v := 1) hx hb dX9_end_24 (by decide) ?_
      subst hR
      exact W.zret (v := 1) hx hb hr rfl (fun t ht hW => ⟨⟨1, (), rfl, rfl, by rw [ht]; exact hP, hD⟩, hS.F ht⟩) hS.2.2 dX9_end_25
    · rw [if_neg c_2] at hR
      refine lv_iconst (v := 0) hx hb dX9_end_17 (by decide) ?_
      subst hR
      exact W.zret (v := 0) hx hb hr rfl (fun t ht hW => ⟨⟨0, (), rfl, rfl, by rw [ht]; exact hP, hD⟩, hS.F ht⟩) hS.2.2 dX9_end_18

def fX9_fault (th dc tl xl fo fa mn ft wl : Int32) : Int32 × Int32 :=
  (fo, 0)
theorem inc_X9_fault_9 : ∀ w ∈ u_ws RX9 TX9 17, w ∈ wsX9_fault := by decide +kernel
set_option maxHeartbeats 4000000 in
set_option maxRecDepth 100000 in
theorem c_X9_fault (l : Launch) (dC : Nat → ClassId) (dI : Nat → Nat → Nat) (cB cC cI cJ : ClassId) (sz : Nat) (h0 a0 a1 a2 a3 a4 a5 a6 a7 : Nat) (th dc tl xl fo fa mn ft wl : Int32) : Met l yX9_fault wsX9_fault ({ frames := 0, cells := 0, slots := 0, locals := 0 } : Room) (cP dC dI cB cC cI cJ [.ref h0] sz [(h0, .inr (9, [.int th, .ref a0, .ref a1, .ref a2, .int dc, .ref a3, .int tl, .ref a4, .int xl, .int fo, .int fa, .ref a5, .int mn, .ref a6, .int ft, .ref a7, .int wl]))]) (va_Qi (fun r _ => r = (fX9_fault th dc tl xl fo fa mn ft wl).1) (cE dC dI (va_A [(h0, .inr (9, [.int th, .ref a0, .ref a1, .ref a2, .int dc, .ref a3, .int tl, .ref a4, .int xl, .int fo, .int fa, .ref a5, .int mn, .ref a6, .int ft, .ref a7, .int wl]))] sz) [(h0, .inr (9, [.int (fX9_fault th dc tl xl fo fa mn ft wl).2, .ref a0, .ref a1, .ref a2, .int dc, .ref a3, .int tl, .ref a4, .int xl, .int fo, .int fa, .ref a5, .int mn, .ref a6, .int ft, .ref a7, .int wl]))]) (va_A [(h0, .inr (9, [.int th, .ref a0, .ref a1, .ref a2, .int dc, .ref a3, .int tl, .ref a4, .int xl, .int fo, .int fa, .ref a5, .int mn, .ref a6, .int ft, .ref a7, .int wl]))] sz)) 0 0 (va_A [(h0, .inr (9, [.int th, .ref a0, .ref a1, .ref a2, .int dc, .ref a3, .int tl, .ref a4, .int xl, .int fo, .int fa, .ref a5, .int mn, .ref a6, .int ft, .ref a7, .int wl]))] sz) := by
  refine Met.ofW (cc := cX9_fault) (maxL := 1) (ret := (some .int)) (by decide) rfl ?_
  intro p e s m args below meth c s₁ B hml hv
  obtain ⟨rfl, hsz, hP, hG, hD0⟩ := hv
  have hx := B.exec
  have hb := B.bytes
  have hr := B.returns
  have hts := atoms_spec (ws := wsX9_fault) B.pre
  have hown : s.vm.findClass RX9 = some m.cls := findClass_of_methodNamed B.named
  have hlocks := B.notSynchronized
  subst hsz
  have hD := hD0.self (sz := s.heap.size)
  generalize hAe : va_A [(h0, .inr (9, [.int th, .ref a0, .ref a1, .ref a2, .int dc, .ref a3, .int tl, .ref a4, .int xl, .int fo, .int fa, .ref a5, .int mn, .ref a6, .int ft, .ref a7, .int wl]))] s.heap.size = A at hD ⊢
  have hA : ∀ q : Nat, s.heap.size ≤ q → A q := fun q h => by rw [← hAe]; exact Or.inr h
  obtain ⟨H, hH⟩ : ∃ H : Heap, H = s.heap := ⟨_, rfl⟩
  have hS : va_S A s.heap H [] := by rw [hH]; exact va_S.rf
  rw [← hH] at hP ⊢
  generalize hR : fX9_fault th dc tl xl fo fa mn ft wl = R
  unfold fX9_fault at hR
  have hl := lv_entry ([.ref h0]) (n := 1) (Nat.le_of_ble_eq_true rfl)
  rw [lg_entry_eq]
  generalize (lg_sl ([.ref h0]) ++ List.replicate (1 - (lg_sl ([.ref h0])).length) Slot.unset).toArray = ls at hl ⊢
  have hl : lv_has ls 1 [(0, .ref h0)] := hl
  refine lv_aload_n hx hb dX9_fault_0 rfl (lv_at hl 0 rfl) ?_
  refine lv_iconst (v := 0) hx hb dX9_fault_1 (by decide) ?_
  refine va_put (D := (dC, dI)) (ci := 9) (v := .int 0) (ty := .int) (C := RX9) (T := TX9) (N := 17) hx hb hts inc_X9_fault_9 tyX9 tyX9_ok nmX9 hown hG.1 hP hD hS 0 rfl rfl 0 (by decide) (hts (.fieldLink RX9 7 "MappingDeskModel" "thrownCode" "I") (by decide +kernel)) (fun _ h9 => h9) rfl (by decide +kernel) rfl rfl (Nat.le_of_ble_eq_true rfl) dX9_fault_2 (fun H locs hP hD hS => ?_)
  have hP : va_P (dC, dI) vwCl [(h0, .inr (9, [.int 0, .ref a0, .ref a1, .ref a2, .int dc, .ref a3, .int tl, .ref a4, .int xl, .int fo, .int fa, .ref a5, .int mn, .ref a6, .int ft, .ref a7, .int wl]))] H := hP
  have hD : va_D A [(h0, .inr (9, [.int 0, .ref a0, .ref a1, .ref a2, .int dc, .ref a3, .int tl, .ref a4, .int xl, .int fo, .int fa, .ref a5, .int mn, .ref a6, .int ft, .ref a7, .int wl]))] := hD
  refine lv_aload_n hx hb dX9_fault_5 rfl (lv_at hl 0 rfl) ?_
  refine va_get (D := (dC, dI)) (ci := 9) (v := .int fo) (C := RX9) (T := TX9) (N := 17) hx hb hts inc_X9_fault_9 hown hG.1 hP 0 rfl rfl 9 (by decide) (hts (.fieldLink RX9 39 "MappingDeskModel" "faultOf" "I") (by decide +kernel)) (fun _ h9 => h9) rfl dX9_fault_6 ?_
  subst hR
  exact W.iret (v := fo) hx hb hr (fun t ht hW => ⟨⟨fo, (), rfl, rfl, by rw [ht]; exact hP, hD⟩, hS.F ht⟩) hS.2.2 dX9_fault_9

def fX9_size (th dc tl xl fo fa mn ft wl : Int32) (ct : Nat → Int32) (x : Int32) : Int32 × Int32 :=
  if x < 0 then
    ((-1), 0)
  else
    if x ≤ 1 then
      ((ct x.toNatClampNeg), 0)
    else
      ((-1), 0)
theorem inc_X9_size_9 : ∀ w ∈ u_ws RX9 TX9 17, w ∈ wsX9_size := by decide +kernel
set_option maxHeartbeats 4000000 in
set_option maxRecDepth 100000 in
theorem c_X9_size (l : Launch) (dC : Nat → ClassId) (dI : Nat → Nat → Nat) (cB cC cI cJ : ClassId) (sz : Nat) (h0 a0 a1 a2 a3 a4 a5 a6 a7 : Nat) (th dc tl xl fo fa mn ft wl : Int32) (ct : Nat → Int32) (x : Int32) : Met l yX9_size wsX9_size ({ frames := 0, cells := 0, slots := 0, locals := 0 } : Room) (cP dC dI cB cC cI cJ [.ref h0, .int x] sz [(h0, .inr (9, [.int th, .ref a0, .ref a1, .ref a2, .int dc, .ref a3, .int tl, .ref a4, .int xl, .int fo, .int fa, .ref a5, .int mn, .ref a6, .int ft, .ref a7, .int wl])), (a1, .inl (cI, 2, .inl ct))]) (va_Qi (fun r _ => r = (fX9_size th dc tl xl fo fa mn ft wl ct x).1) (cE dC dI (va_A [(h0, .inr (9, [.int th, .ref a0, .ref a1, .ref a2, .int dc, .ref a3, .int tl, .ref a4, .int xl, .int fo, .int fa, .ref a5, .int mn, .ref a6, .int ft, .ref a7, .int wl])), (a1, .inl (cI, 2, .inl ct))] sz) [(h0, .inr (9, [.int (fX9_size th dc tl xl fo fa mn ft wl ct x).2, .ref a0, .ref a1, .ref a2, .int dc, .ref a3, .int tl, .ref a4, .int xl, .int fo, .int fa, .ref a5, .int mn, .ref a6, .int ft, .ref a7, .int wl])), (a1, .inl (cI, 2, .inl ct))]) (va_A [(h0, .inr (9, [.int th, .ref a0, .ref a1, .ref a2, .int dc, .ref a3, .int tl, .ref a4, .int xl, .int fo, .int fa, .ref a5, .int mn, .ref a6, .int ft, .ref a7, .int wl])), (a1, .inl (cI, 2, .inl ct))] sz)) 0 0 (va_A [(h0, .inr (9, [.int th, .ref a0, .ref a1, .ref a2, .int dc, .ref a3, .int tl, .ref a4, .int xl, .int fo, .int fa, .ref a5, .int mn, .ref a6, .int ft, .ref a7, .int wl])), (a1, .inl (cI, 2, .inl ct))] sz) := by
  refine Met.ofW (cc := cX9_size) (maxL := 2) (ret := (some .int)) (by decide) rfl ?_
  intro p e s m args below meth c s₁ B hml hv
  obtain ⟨rfl, hsz, hP, hG, hD0⟩ := hv
  have hx := B.exec
  have hb := B.bytes
  have hr := B.returns
  have hts := atoms_spec (ws := wsX9_size) B.pre
  have hown : s.vm.findClass RX9 = some m.cls := findClass_of_methodNamed B.named
  have hlocks := B.notSynchronized
  subst hsz
  have hD := hD0.self (sz := s.heap.size)
  generalize hAe : va_A [(h0, .inr (9, [.int th, .ref a0, .ref a1, .ref a2, .int dc, .ref a3, .int tl, .ref a4, .int xl, .int fo, .int fa, .ref a5, .int mn, .ref a6, .int ft, .ref a7, .int wl])), (a1, .inl (cI, 2, .inl ct))] s.heap.size = A at hD ⊢
  have hA : ∀ q : Nat, s.heap.size ≤ q → A q := fun q h => by rw [← hAe]; exact Or.inr h
  obtain ⟨H, hH⟩ : ∃ H : Heap, H = s.heap := ⟨_, rfl⟩
  have hS : va_S A s.heap H [] := by rw [hH]; exact va_S.rf
  rw [← hH] at hP ⊢
  generalize hR : fX9_size th dc tl xl fo fa mn ft wl ct x = R
  unfold fX9_size at hR
  have hl := lv_entry ([.ref h0, .int x]) (n := 2) (Nat.le_of_ble_eq_true rfl)
  rw [lg_entry_eq]
  generalize (lg_sl ([.ref h0, .int x]) ++ List.replicate (2 - (lg_sl ([.ref h0, .int x])).length) Slot.unset).toArray = ls at hl ⊢
  have hl : lv_has ls 2 [(0, .ref h0), (1, .int x)] := hl
  refine lv_aload_n hx hb dX9_size_0 rfl (lv_at hl 0 rfl) ?_
  refine lv_iconst (v := 0) hx hb dX9_size_1 (by decide) ?_
  refine va_put (D := (dC, dI)) (ci := 9) (v := .int 0) (ty := .int) (C := RX9) (T := TX9) (N := 17) hx hb hts inc_X9_size_9 tyX9 tyX9_ok nmX9 hown hG.1 hP hD hS 0 rfl rfl 0 (by decide) (hts (.fieldLink RX9 7 "MappingDeskModel" "thrownCode" "I") (by decide +kernel)) (fun _ h9 => h9) rfl (by decide +kernel) rfl rfl (Nat.le_of_ble_eq_true rfl) dX9_size_2 (fun H locs hP hD hS => ?_)
  have hP : va_P (dC, dI) vwCl [(h0, .inr (9, [.int 0, .ref a0, .ref a1, .ref a2, .int dc, .ref a3, .int tl, .ref a4, .int xl, .int fo, .int fa, .ref a5, .int mn, .ref a6, .int ft, .ref a7, .int wl])), (a1, .inl (cI, 2, .inl ct))] H := hP
  have hD : va_D A [(h0, .inr (9, [.int 0, .ref a0, .ref a1, .ref a2, .int dc, .ref a3, .int tl, .ref a4, .int xl, .int fo, .int fa, .ref a5, .int mn, .ref a6, .int ft, .ref a7, .int wl])), (a1, .inl (cI, 2, .inl ct))] := hD
  refine lv_iload_n hx hb dX9_size_5 rfl (lv_at hl 1 rfl) ?_
  refine lv_if_lt (tgt := 14) hx hb dX9_size_6 (by decide) (fun c_1 => ?_) (fun c_1 => ?_)
  · rw [if_pos c_1] at hR
    refine lv_iconst (v := (-1)) hx hb dX9_size_14 (by decide) ?_
    refine lv_goto (tgt := 24) hx hb dX9_size_15 (by decide) ?_
    subst hR
    exact W.iret (v := (-1)) hx hb hr (fun t ht hW => ⟨⟨(-1), (), rfl, rfl, by rw [ht]; exact hP, hD⟩, hS.F ht⟩) hS.2.2 dX9_size_24
  · rw [if_neg c_1] at hR
    refine lv_iload_n hx hb dX9_size_9 rfl (lv_at hl 1 rfl) ?_
    refine lv_iconst (v := 1) hx hb dX9_size_10 (by decide) ?_
    refine lv_icmp_le (tgt := 18) hx hb dX9_size_11 (by decide) (fun c_2 => ?_) (fun c_2 => ?_)
    · rw [if_pos c_2] at hR
      refine lv_aload_n hx hb dX9_size_18 rfl (lv_at hl 0 rfl) ?_
      refine va_get (D := (dC, dI)) (ci := 9) (v := .ref a1) (C := RX9) (T := TX9) (N := 17) hx hb hts inc_X9_size_9 hown hG.1 hP 0 rfl rfl 2 (by decide) (hts (.fieldLink RX9 17 "MappingDeskModel" "count" "[I") (by decide +kernel)) (fun _ h9 => h9) rfl dX9_size_19 ?_
      refine lv_iload_n hx hb dX9_size_22 rfl (lv_at hl 1 rfl) ?_
      have b_3 : vp_in x 2 := by
        have k_4 : (0 : Int32).toInt = 0 := by decide
        have q_5 := i_nlt c_1
        have k_6 : (1 : Int32).toInt = 1 := by decide
        have q_7 := i_le c_2
        refine vin ?_ ?_
        all_goals (try generalize Int32.toInt (0 : Int32) = z0 at *; try generalize Int32.toInt (1 : Int32) = z1 at *; try generalize Int32.toInt x = z2 at *; omega)
      refine va_iald hx hb hG.1 hP 1 2 rfl rfl b_3 dX9_size_23 ?_
      subst hR
      exact W.iret (v := (ct x.toNatClampNeg)) hx hb hr (fun t ht hW => ⟨⟨(ct x.toNatClampNeg), (), rfl, rfl, by rw [ht]; exact hP, hD⟩, hS.F ht⟩) hS.2.2 dX9_size_24
    · rw [if_neg c_2] at hR
      refine lv_iconst (v := (-1)) hx hb dX9_size_14 (by decide) ?_
      refine lv_goto (tgt := 24) hx hb dX9_size_15 (by decide) ?_
      subst hR
      exact W.iret (v := (-1)) hx hb hr (fun t ht hW => ⟨⟨(-1), (), rfl, rfl, by rw [ht]; exact hP, hD⟩, hS.F ht⟩) hS.2.2 dX9_size_24

def fX9_clear (th dc tl xl fo fa mn ft wl : Int32) (ct : Nat → Int32) (x : Int32) : Int32 × Int32 × (Nat → Int32) :=
  if x < 0 then
    (0, 0, ct)
  else
    if x ≤ 1 then
      (1, 0, (upd ct x.toNatClampNeg 0))
    else
      (0, 0, ct)
theorem inc_X9_clear_9 : ∀ w ∈ u_ws RX9 TX9 17, w ∈ wsX9_clear := by decide +kernel
set_option maxHeartbeats 4000000 in
set_option maxRecDepth 100000 in
theorem c_X9_clear (l : Launch) (dC : Nat → ClassId) (dI : Nat → Nat → Nat) (cB cC cI cJ : ClassId) (sz : Nat) (h0 a0 a1 a2 a3 a4 a5 a6 a7 : Nat) (th dc tl xl fo fa mn ft wl : Int32) (ct : Nat → Int32) (x : Int32) : Met l yX9_clear wsX9_clear ({ frames := 0, cells := 0, slots := 0, locals := 0 } : Room) (cP dC dI cB cC cI cJ [.ref h0, .int x] sz [(h0, .inr (9, [.int th, .ref a0, .ref a1, .ref a2, .int dc, .ref a3, .int tl, .ref a4, .int xl, .int fo, .int fa, .ref a5, .int mn, .ref a6, .int ft, .ref a7, .int wl])), (a1, .inl (cI, 2, .inl ct))]) (va_Qi (fun r _ => r = (fX9_clear th dc tl xl fo fa mn ft wl ct x).1) (cE dC dI (va_A [(h0, .inr (9, [.int th, .ref a0, .ref a1, .ref a2, .int dc, .ref a3, .int tl, .ref a4, .int xl, .int fo, .int fa, .ref a5, .int mn, .ref a6, .int ft, .ref a7, .int wl])), (a1, .inl (cI, 2, .inl ct))] sz) [(h0, .inr (9, [.int (fX9_clear th dc tl xl fo fa mn ft wl ct x).2.1, .ref a0, .ref a1, .ref a2, .int dc, .ref a3, .int tl, .ref a4, .int xl, .int fo, .int fa, .ref a5, .int mn, .ref a6, .int ft, .ref a7, .int wl])), (a1, .inl (cI, 2, .inl (fX9_clear th dc tl xl fo fa mn ft wl ct x).2.2))]) (va_A [(h0, .inr (9, [.int th, .ref a0, .ref a1, .ref a2, .int dc, .ref a3, .int tl, .ref a4, .int xl, .int fo, .int fa, .ref a5, .int mn, .ref a6, .int ft, .ref a7, .int wl])), (a1, .inl (cI, 2, .inl ct))] sz)) 0 0 (va_A [(h0, .inr (9, [.int th, .ref a0, .ref a1, .ref a2, .int dc, .ref a3, .int tl, .ref a4, .int xl, .int fo, .int fa, .ref a5, .int mn, .ref a6, .int ft, .ref a7, .int wl])), (a1, .inl (cI, 2, .inl ct))] sz) := by
  refine Met.ofW (cc := cX9_clear) (maxL := 2) (ret := (some .boolean)) (by decide) rfl ?_
  intro p e s m args below meth c s₁ B hml hv
  obtain ⟨rfl, hsz, hP, hG, hD0⟩ := hv
  have hx := B.exec
  have hb := B.bytes
  have hr := B.returns
  have hts := atoms_spec (ws := wsX9_clear) B.pre
  have hown : s.vm.findClass RX9 = some m.cls := findClass_of_methodNamed B.named
  have hlocks := B.notSynchronized
  subst hsz
  have hD := hD0.self (sz := s.heap.size)
  generalize hAe : va_A [(h0, .inr (9, [.int th, .ref a0, .ref a1, .ref a2, .int dc, .ref a3, .int tl, .ref a4, .int xl, .int fo, .int fa, .ref a5, .int mn, .ref a6, .int ft, .ref a7, .int wl])), (a1, .inl (cI, 2, .inl ct))] s.heap.size = A at hD ⊢
  have hA : ∀ q : Nat, s.heap.size ≤ q → A q := fun q h => by rw [← hAe]; exact Or.inr h
  obtain ⟨H, hH⟩ : ∃ H : Heap, H = s.heap := ⟨_, rfl⟩
  have hS : va_S A s.heap H [] := by rw [hH]; exact va_S.rf
  rw [← hH] at hP ⊢
  generalize hR : fX9_clear th dc tl xl fo fa mn ft wl ct x = R
  unfold fX9_clear at hR
  have hl := lv_entry ([.ref h0, .int x]) (n := 2) (Nat.le_of_ble_eq_true rfl)
  rw [lg_entry_eq]
  generalize (lg_sl ([.ref h0, .int x]) ++ List.replicate (2 - (lg_sl ([.ref h0, .int x])).length) Slot.unset).toArray = ls at hl ⊢
  have hl : lv_has ls 2 [(0, .ref h0), (1, .int x)] := hl
  refine lv_aload_n hx hb dX9_clear_0 rfl (lv_at hl 0 rfl) ?_
  refine lv_iconst (v := 0) hx hb dX9_clear_1 (by decide) ?_
  refine va_put (D := (dC, dI)) (ci := 9) (v := .int 0) (ty := .int) (C := RX9) (T := TX9) (N := 17) hx hb hts inc_X9_clear_9 tyX9 tyX9_ok nmX9 hown hG.1 hP hD hS 0 rfl rfl 0 (by decide) (hts (.fieldLink RX9 7 "MappingDeskModel" "thrownCode" "I") (by decide +kernel)) (fun _ h9 => h9) rfl (by decide +kernel) rfl rfl (Nat.le_of_ble_eq_true rfl) dX9_clear_2 (fun H locs hP hD hS => ?_)
  have hP : va_P (dC, dI) vwCl [(h0, .inr (9, [.int 0, .ref a0, .ref a1, .ref a2, .int dc, .ref a3, .int tl, .ref a4, .int xl, .int fo, .int fa, .ref a5, .int mn, .ref a6, .int ft, .ref a7, .int wl])), (a1, .inl (cI, 2, .inl ct))] H := hP
  have hD : va_D A [(h0, .inr (9, [.int 0, .ref a0, .ref a1, .ref a2, .int dc, .ref a3, .int tl, .ref a4, .int xl, .int fo, .int fa, .ref a5, .int mn, .ref a6, .int ft, .ref a7, .int wl])), (a1, .inl (cI, 2, .inl ct))] := hD
  refine lv_iload_n hx hb dX9_clear_5 rfl (lv_at hl 1 rfl) ?_
  refine lv_if_lt (tgt := 14) hx hb dX9_clear_6 (by decide) (fun c_1 => ?_) (fun c_1 => ?_)
  · rw [if_pos c_1] at hR
    refine lv_iconst (v := 0) hx hb dX9_clear_14 (by decide) ?_
    subst hR
    exact W.zret (v := 0) hx hb hr rfl (fun t ht hW => ⟨⟨0, (), rfl, rfl, by rw [ht]; exact hP, hD⟩, hS.F ht⟩) hS.2.2 dX9_clear_15
  · rw [if_neg c_1] at hR
    refine lv_iload_n hx hb dX9_clear_9 rfl (lv_at hl 1 rfl) ?_
    refine lv_iconst (v := 1) hx hb dX9_clear_10 (by decide) ?_
    refine lv_icmp_le (tgt := 16) hx hb dX9_clear_11 (by decide) (fun c_2 => ?_) (fun c_2 => ?_)
    · rw [if_pos c_2] at hR
      refine lv_aload_n hx hb dX9_clear_16 rfl (lv_at hl 0 rfl) ?_
      refine va_get (D := (dC, dI)) (ci := 9) (v := .ref a1) (C := RX9) (T := TX9) (N := 17) hx hb hts inc_X9_clear_9 hown hG.1 hP 0 rfl rfl 2 (by decide) (hts (.fieldLink RX9 17 "MappingDeskModel" "count" "[I") (by decide +kernel)) (fun _ h9 => h9) rfl dX9_clear_17 ?_
      refine lv_iload_n hx hb dX9_clear_20 rfl (lv_at hl 1 rfl) ?_
      refine lv_iconst (v := 0) hx hb dX9_clear_21 (by decide) ?_
      have b_3 : vp_in x 2 := by
        have k_4 : (0 : Int32).toInt = 0 := by decide
        have q_5 := i_nlt c_1
        have k_6 : (1 : Int32).toInt = 1 := by decide
        have q_7 := i_le c_2
        refine vin ?_ ?_
        all_goals (try generalize Int32.toInt (0 : Int32) = z0 at *; try generalize Int32.toInt (1 : Int32) = z1 at *; try generalize Int32.toInt x = z2 at *; omega)
      refine va_iast hx hb hG.1 hP hD hS 1 2 rfl rfl b_3 dX9_clear_22 (fun H locs hP hD hS => ?_)
      have hP : va_P (dC, dI) vwCl [(h0, .inr (9, [.int 0, .ref a0, .ref a1, .ref a2, .int dc, .ref a3, .int tl, .ref a4, .int xl, .int fo, .int fa, .ref a5, .int mn, .ref a6, .int ft, .ref a7, .int wl])), (a1, .inl (cI, 2, .inl (upd ct x.toNatClampNeg 0)))] H := hP
      have hD : va_D A [(h0, .inr (9, [.int 0, .ref a0, .ref a1, .ref a2, .int dc, .ref a3, .int tl, .ref a4, .int xl, .int fo, .int fa, .ref a5, .int mn, .ref a6, .int ft, .ref a7, .int wl])), (a1, .inl (cI, 2, .inl (upd ct x.toNatClampNeg 0)))] := hD
      refine lv_iconst (v := 1) hx hb dX9_clear_23 (by decide) ?_
      subst hR
      exact W.zret (v := 1) hx hb hr rfl (fun t ht hW => ⟨⟨1, (), rfl, rfl, by rw [ht]; exact hP, hD⟩, hS.F ht⟩) hS.2.2 dX9_clear_24
    · rw [if_neg c_2] at hR
      refine lv_iconst (v := 0) hx hb dX9_clear_14 (by decide) ?_
      subst hR
      exact W.zret (v := 0) hx hb hr rfl (fun t ht hW => ⟨⟨0, (), rfl, rfl, by rw [ht]; exact hP, hD⟩, hS.F ht⟩) hS.2.2 dX9_clear_15

def fX9_textAt (th dc tl xl fo fa mn ft wl : Int32) (tx : Nat → Int32) (x : Int32) : Int32 × Int32 :=
  if x < 0 then
    (0, 1)
  else
    if x < xl then
      ((tx x.toNatClampNeg), 0)
    else
      (0, 1)
theorem inc_X9_textAt_9 : ∀ w ∈ u_ws RX9 TX9 17, w ∈ wsX9_textAt := by decide +kernel
set_option maxHeartbeats 4000000 in
set_option maxRecDepth 100000 in
theorem c_X9_textAt (l : Launch) (dC : Nat → ClassId) (dI : Nat → Nat → Nat) (cB cC cI cJ : ClassId) (sz : Nat) (h0 a0 a1 a2 a3 a4 a5 a6 a7 : Nat) (th dc tl xl fo fa mn ft wl : Int32) (tx : Nat → Int32) (x : Int32) (hx0 : 0 ≤ xl.toInt) (hx1 : xl.toInt ≤ 6000) : Met l yX9_textAt wsX9_textAt ({ frames := 0, cells := 0, slots := 0, locals := 0 } : Room) (cP dC dI cB cC cI cJ [.ref h0, .int x] sz [(h0, .inr (9, [.int th, .ref a0, .ref a1, .ref a2, .int dc, .ref a3, .int tl, .ref a4, .int xl, .int fo, .int fa, .ref a5, .int mn, .ref a6, .int ft, .ref a7, .int wl])), (a4, .inl (cB, 6000, .inl tx))]) (va_Qi (fun r _ => r = (fX9_textAt th dc tl xl fo fa mn ft wl tx x).1) (cE dC dI (va_A [(h0, .inr (9, [.int th, .ref a0, .ref a1, .ref a2, .int dc, .ref a3, .int tl, .ref a4, .int xl, .int fo, .int fa, .ref a5, .int mn, .ref a6, .int ft, .ref a7, .int wl])), (a4, .inl (cB, 6000, .inl tx))] sz) [(h0, .inr (9, [.int (fX9_textAt th dc tl xl fo fa mn ft wl tx x).2, .ref a0, .ref a1, .ref a2, .int dc, .ref a3, .int tl, .ref a4, .int xl, .int fo, .int fa, .ref a5, .int mn, .ref a6, .int ft, .ref a7, .int wl])), (a4, .inl (cB, 6000, .inl tx))]) (va_A [(h0, .inr (9, [.int th, .ref a0, .ref a1, .ref a2, .int dc, .ref a3, .int tl, .ref a4, .int xl, .int fo, .int fa, .ref a5, .int mn, .ref a6, .int ft, .ref a7, .int wl])), (a4, .inl (cB, 6000, .inl tx))] sz)) 0 0 (va_A [(h0, .inr (9, [.int th, .ref a0, .ref a1, .ref a2, .int dc, .ref a3, .int tl, .ref a4, .int xl, .int fo, .int fa, .ref a5, .int mn, .ref a6, .int ft, .ref a7, .int wl])), (a4, .inl (cB, 6000, .inl tx))] sz) := by
  refine Met.ofW (cc := cX9_textAt) (maxL := 2) (ret := (some .int)) (by decide) rfl ?_
  intro p e s m args below meth c s₁ B hml hv
  obtain ⟨rfl, hsz, hP, hG, hD0⟩ := hv
  have hx := B.exec
  have hb := B.bytes
  have hr := B.returns
  have hts := atoms_spec (ws := wsX9_textAt) B.pre
  have hown : s.vm.findClass RX9 = some m.cls := findClass_of_methodNamed B.named
  have hlocks := B.notSynchronized
  subst hsz
  have hD := hD0.self (sz := s.heap.size)
  generalize hAe : va_A [(h0, .inr (9, [.int th, .ref a0, .ref a1, .ref a2, .int dc, .ref a3, .int tl, .ref a4, .int xl, .int fo, .int fa, .ref a5, .int mn, .ref a6, .int ft, .ref a7, .int wl])), (a4, .inl (cB, 6000, .inl tx))] s.heap.size = A at hD ⊢
  have hA : ∀ q : Nat, s.heap.size ≤ q → A q := fun q h => by rw [← hAe]; exact Or.inr h
  obtain ⟨H, hH⟩ : ∃ H : Heap, H = s.heap := ⟨_, rfl⟩
  have hS : va_S A s.heap H [] := by rw [hH]; exact va_S.rf
  rw [← hH] at hP ⊢
  generalize hR : fX9_textAt th dc tl xl fo fa mn ft wl tx x = R
  unfold fX9_textAt at hR
  have hl := lv_entry ([.ref h0, .int x]) (n := 2) (Nat.le_of_ble_eq_true rfl)
  rw [lg_entry_eq]
  generalize (lg_sl ([.ref h0, .int x]) ++ List.replicate (2 - (lg_sl ([.ref h0, .int x])).length) Slot.unset).toArray = ls at hl ⊢
  have hl : lv_has ls 2 [(0, .ref h0), (1, .int x)] := hl
  refine lv_aload_n hx hb dX9_textAt_0 rfl (lv_at hl 0 rfl) ?_
  refine lv_iconst (v := 0) hx hb dX9_textAt_1 (by decide) ?_
  refine va_put (D := (dC, dI)) (ci := 9) (v := .int 0) (ty := .int) (C := RX9) (T := TX9) (N := 17) hx hb hts inc_X9_textAt_9 tyX9 tyX9_ok nmX9 hown hG.1 hP hD hS 0 rfl rfl 0 (by decide) (hts (.fieldLink RX9 7 "MappingDeskModel" "thrownCode" "I") (by decide +kernel)) (fun _ h9 => h9) rfl (by decide +kernel) rfl rfl (Nat.le_of_ble_eq_true rfl) dX9_textAt_2 (fun H locs hP hD hS => ?_)
  have hP : va_P (dC, dI) vwCl [(h0, .inr (9, [.int 0, .ref a0, .ref a1, .ref a2, .int dc, .ref a3, .int tl, .ref a4, .int xl, .int fo, .int fa, .ref a5, .int mn, .ref a6, .int ft, .ref a7, .int wl])), (a4, .inl (cB, 6000, .inl tx))] H := hP
  have hD : va_D A [(h0, .inr (9, [.int 0, .ref a0, .ref a1, .ref a2, .int dc, .ref a3, .int tl, .ref a4, .int xl, .int fo, .int fa, .ref a5, .int mn, .ref a6, .int ft, .ref a7, .int wl])), (a4, .inl (cB, 6000, .inl tx))] := hD
  refine lv_iload_n hx hb dX9_textAt_5 rfl (lv_at hl 1 rfl) ?_
  refine lv_if_lt (tgt := 17) hx hb dX9_textAt_6 (by decide) (fun c_1 => ?_) (fun c_1 => ?_)
  · rw [if_pos c_1] at hR
    refine lv_aload_n hx hb dX9_textAt_17 rfl (lv_at hl 0 rfl) ?_
    refine lv_iconst (v := 1) hx hb dX9_textAt_18 (by decide) ?_
    refine va_put (D := (dC, dI)) (ci := 9) (v := .int 1) (ty := .int) (C := RX9) (T := TX9) (N := 17) hx hb hts inc_X9_textAt_9 tyX9 tyX9_ok nmX9 hown hG.1 hP hD hS 0 rfl rfl 0 (by decide) (hts (.fieldLink RX9 7 "MappingDeskModel" "thrownCode" "I") (by decide +kernel)) (fun _ h9 => h9) rfl (by decide +kernel) rfl rfl (Nat.le_of_ble_eq_true rfl) dX9_textAt_19 (fun H locs hP hD hS => ?_)
    have hP : va_P (dC, dI) vwCl [(h0, .inr (9, [.int 1, .ref a0, .ref a1, .ref a2, .int dc, .ref a3, .int tl, .ref a4, .int xl, .int fo, .int fa, .ref a5, .int mn, .ref a6, .int ft, .ref a7, .int wl])), (a4, .inl (cB, 6000, .inl tx))] H := hP
    have hD : va_D A [(h0, .inr (9, [.int 1, .ref a0, .ref a1, .ref a2, .int dc, .ref a3, .int tl, .ref a4, .int xl, .int fo, .int fa, .ref a5, .int mn, .ref a6, .int ft, .ref a7, .int wl])), (a4, .inl (cB, 6000, .inl tx))] := hD
    refine lv_iconst (v := 0) hx hb dX9_textAt_22 (by decide) ?_
    subst hR
    exact W.iret (v := 0) hx hb hr (fun t ht hW => ⟨⟨0, (), rfl, rfl, by rw [ht]; exact hP, hD⟩, hS.F ht⟩) hS.2.2 dX9_textAt_23
  · rw [if_neg c_1] at hR
    refine lv_iload_n hx hb dX9_textAt_9 rfl (lv_at hl 1 rfl) ?_
    refine lv_aload_n hx hb dX9_textAt_10 rfl (lv_at hl 0 rfl) ?_
    refine va_get (D := (dC, dI)) (ci := 9) (v := .int xl) (C := RX9) (T := TX9) (N := 17) hx hb hts inc_X9_textAt_9 hown hG.1 hP 0 rfl rfl 8 (by decide) (hts (.fieldLink RX9 36 "MappingDeskModel" "textLen" "I") (by decide +kernel)) (fun _ h9 => h9) rfl dX9_textAt_11 ?_
    refine lv_icmp_lt (tgt := 24) hx hb dX9_textAt_14 (by decide) (fun c_2 => ?_) (fun c_2 => ?_)
    · rw [if_pos c_2] at hR
      refine lv_aload_n hx hb dX9_textAt_24 rfl (lv_at hl 0 rfl) ?_
      refine va_get (D := (dC, dI)) (ci := 9) (v := .ref a4) (C := RX9) (T := TX9) (N := 17) hx hb hts inc_X9_textAt_9 hown hG.1 hP 0 rfl rfl 7 (by decide) (hts (.fieldLink RX9 33 "MappingDeskModel" "text" "[B") (by decide +kernel)) (fun _ h9 => h9) rfl dX9_textAt_25 ?_
      refine lv_iload_n hx hb dX9_textAt_28 rfl (lv_at hl 1 rfl) ?_
      have b_3 : vp_in x 6000 := by
        have k_4 : (0 : Int32).toInt = 0 := by decide
        have q_5 := i_nlt c_1
        have q_6 := i_lt c_2
        refine vin ?_ ?_
        all_goals (try generalize Int32.toInt xl = z0 at *; try generalize Int32.toInt (0 : Int32) = z1 at *; try generalize Int32.toInt x = z2 at *; omega)
      refine va_bald hx hb hG.1 hP 1 0 rfl rfl b_3 dX9_textAt_29 ?_
      subst hR
      exact W.iret (v := (tx x.toNatClampNeg)) hx hb hr (fun t ht hW => ⟨⟨(tx x.toNatClampNeg), (), rfl, rfl, by rw [ht]; exact hP, hD⟩, hS.F ht⟩) hS.2.2 dX9_textAt_30
    · rw [if_neg c_2] at hR
      refine lv_aload_n hx hb dX9_textAt_17 rfl (lv_at hl 0 rfl) ?_
      refine lv_iconst (v := 1) hx hb dX9_textAt_18 (by decide) ?_
      refine va_put (D := (dC, dI)) (ci := 9) (v := .int 1) (ty := .int) (C := RX9) (T := TX9) (N := 17) hx hb hts inc_X9_textAt_9 tyX9 tyX9_ok nmX9 hown hG.1 hP hD hS 0 rfl rfl 0 (by decide) (hts (.fieldLink RX9 7 "MappingDeskModel" "thrownCode" "I") (by decide +kernel)) (fun _ h9 => h9) rfl (by decide +kernel) rfl rfl (Nat.le_of_ble_eq_true rfl) dX9_textAt_19 (fun H locs hP hD hS => ?_)
      have hP : va_P (dC, dI) vwCl [(h0, .inr (9, [.int 1, .ref a0, .ref a1, .ref a2, .int dc, .ref a3, .int tl, .ref a4, .int xl, .int fo, .int fa, .ref a5, .int mn, .ref a6, .int ft, .ref a7, .int wl])), (a4, .inl (cB, 6000, .inl tx))] H := hP
      have hD : va_D A [(h0, .inr (9, [.int 1, .ref a0, .ref a1, .ref a2, .int dc, .ref a3, .int tl, .ref a4, .int xl, .int fo, .int fa, .ref a5, .int mn, .ref a6, .int ft, .ref a7, .int wl])), (a4, .inl (cB, 6000, .inl tx))] := hD
      refine lv_iconst (v := 0) hx hb dX9_textAt_22 (by decide) ?_
      subst hR
      exact W.iret (v := 0) hx hb hr (fun t ht hW => ⟨⟨0, (), rfl, rfl, by rw [ht]; exact hP, hD⟩, hS.F ht⟩) hS.2.2 dX9_textAt_23

def fX9_feed_23 (th dc tl xl fo fa mn ft wl : Int32) (tp : Nat → Int32) (wa wb wc wd we : Int32) : Nat → Int32 → (Nat → Int32) → Int32 → Int32 × Int32 × Int32 × (Nat → Int32)
  | 0, _, _, _ => (0, 0, 0, (fun _ => 0))
  | n + 1, k, tz, lz =>
    if 20 ≤ k then
      (1, 0, lz, tz)
    else
      if k < 4 then
        if k < 8 then
          if k < 12 then
            if k < 16 then
              fX9_feed_23 th dc tl xl fo fa mn ft wl tp wa wb wc wd we n (k + 1) (upd tz lz.toNatClampNeg (vp_nar .byte (((wa >>> ((24 - (8 * (k &&& 3))) &&& 31)) : Int32).toInt8.toInt32))) (lz + 1)
            else
              fX9_feed_23 th dc tl xl fo fa mn ft wl tp wa wb wc wd we n (k + 1) (upd tz lz.toNatClampNeg (vp_nar .byte (((we >>> ((24 - (8 * (k &&& 3))) &&& 31)) : Int32).toInt8.toInt32))) (lz + 1)
          else
            if k < 16 then
              fX9_feed_23 th dc tl xl fo fa mn ft wl tp wa wb wc wd we n (k + 1) (upd tz lz.toNatClampNeg (vp_nar .byte (((wd >>> ((24 - (8 * (k &&& 3))) &&& 31)) : Int32).toInt8.toInt32))) (lz + 1)
            else
              fX9_feed_23 th dc tl xl fo fa mn ft wl tp wa wb wc wd we n (k + 1) (upd tz lz.toNatClampNeg (vp_nar .byte (((we >>> ((24 - (8 * (k &&& 3))) &&& 31)) : Int32).toInt8.toInt32))) (lz + 1)
        else
          if k < 12 then
            if k < 16 then
              fX9_feed_23 th dc tl xl fo fa mn ft wl tp wa wb wc wd we n (k + 1) (upd tz lz.toNatClampNeg (vp_nar .byte (((wc >>> ((24 - (8 * (k &&& 3))) &&& 31)) : Int32).toInt8.toInt32))) (lz + 1)
            else
              fX9_feed_23 th dc tl xl fo fa mn ft wl tp wa wb wc wd we n (k + 1) (upd tz lz.toNatClampNeg (vp_nar .byte (((we >>> ((24 - (8 * (k &&& 3))) &&& 31)) : Int32).toInt8.toInt32))) (lz + 1)
          else
            if k < 16 then
              fX9_feed_23 th dc tl xl fo fa mn ft wl tp wa wb wc wd we n (k + 1) (upd tz lz.toNatClampNeg (vp_nar .byte (((wd >>> ((24 - (8 * (k &&& 3))) &&& 31)) : Int32).toInt8.toInt32))) (lz + 1)
            else
              fX9_feed_23 th dc tl xl fo fa mn ft wl tp wa wb wc wd we n (k + 1) (upd tz lz.toNatClampNeg (vp_nar .byte (((we >>> ((24 - (8 * (k &&& 3))) &&& 31)) : Int32).toInt8.toInt32))) (lz + 1)
      else
        if k < 8 then
          if k < 12 then
            if k < 16 then
              fX9_feed_23 th dc tl xl fo fa mn ft wl tp wa wb wc wd we n (k + 1) (upd tz lz.toNatClampNeg (vp_nar .byte (((wb >>> ((24 - (8 * (k &&& 3))) &&& 31)) : Int32).toInt8.toInt32))) (lz + 1)
            else
              fX9_feed_23 th dc tl xl fo fa mn ft wl tp wa wb wc wd we n (k + 1) (upd tz lz.toNatClampNeg (vp_nar .byte (((we >>> ((24 - (8 * (k &&& 3))) &&& 31)) : Int32).toInt8.toInt32))) (lz + 1)
          else
            if k < 16 then
              fX9_feed_23 th dc tl xl fo fa mn ft wl tp wa wb wc wd we n (k + 1) (upd tz lz.toNatClampNeg (vp_nar .byte (((wd >>> ((24 - (8 * (k &&& 3))) &&& 31)) : Int32).toInt8.toInt32))) (lz + 1)
            else
              fX9_feed_23 th dc tl xl fo fa mn ft wl tp wa wb wc wd we n (k + 1) (upd tz lz.toNatClampNeg (vp_nar .byte (((we >>> ((24 - (8 * (k &&& 3))) &&& 31)) : Int32).toInt8.toInt32))) (lz + 1)
        else
          if k < 12 then
            if k < 16 then
              fX9_feed_23 th dc tl xl fo fa mn ft wl tp wa wb wc wd we n (k + 1) (upd tz lz.toNatClampNeg (vp_nar .byte (((wc >>> ((24 - (8 * (k &&& 3))) &&& 31)) : Int32).toInt8.toInt32))) (lz + 1)
            else
              fX9_feed_23 th dc tl xl fo fa mn ft wl tp wa wb wc wd we n (k + 1) (upd tz lz.toNatClampNeg (vp_nar .byte (((we >>> ((24 - (8 * (k &&& 3))) &&& 31)) : Int32).toInt8.toInt32))) (lz + 1)
          else
            if k < 16 then
              fX9_feed_23 th dc tl xl fo fa mn ft wl tp wa wb wc wd we n (k + 1) (upd tz lz.toNatClampNeg (vp_nar .byte (((wd >>> ((24 - (8 * (k &&& 3))) &&& 31)) : Int32).toInt8.toInt32))) (lz + 1)
            else
              fX9_feed_23 th dc tl xl fo fa mn ft wl tp wa wb wc wd we n (k + 1) (upd tz lz.toNatClampNeg (vp_nar .byte (((we >>> ((24 - (8 * (k &&& 3))) &&& 31)) : Int32).toInt8.toInt32))) (lz + 1)
def fX9_feed (th dc tl xl fo fa mn ft wl : Int32) (tp : Nat → Int32) (wa wb wc wd we : Int32) : Int32 × Int32 × Int32 × (Nat → Int32) :=
  if (tl + 20) ≤ 3000 then
    fX9_feed_23 th dc tl xl fo fa mn ft wl tp wa wb wc wd we 21 0 tp tl
  else
    (0, 0, tl, tp)
theorem inc_X9_feed_9 : ∀ w ∈ u_ws RX9 TX9 17, w ∈ wsX9_feed := by decide +kernel
set_option maxHeartbeats 4000000 in
set_option maxRecDepth 100000 in
theorem c_X9_feed (l : Launch) (dC : Nat → ClassId) (dI : Nat → Nat → Nat) (cB cC cI cJ : ClassId) (sz : Nat) (h0 a0 a1 a2 a3 a4 a5 a6 a7 : Nat) (th dc tl xl fo fa mn ft wl : Int32) (tp : Nat → Int32) (wa wb wc wd we : Int32) (ht0 : 0 ≤ tl.toInt) (ht1 : tl.toInt ≤ 3000) : Met l yX9_feed wsX9_feed ({ frames := 0, cells := 0, slots := 0, locals := 0 } : Room) (cP dC dI cB cC cI cJ [.ref h0, .int wa, .int wb, .int wc, .int wd, .int we] sz [(h0, .inr (9, [.int th, .ref a0, .ref a1, .ref a2, .int dc, .ref a3, .int tl, .ref a4, .int xl, .int fo, .int fa, .ref a5, .int mn, .ref a6, .int ft, .ref a7, .int wl])), (a3, .inl (cB, 3000, .inl tp))]) (va_Qi (fun r _ => r = (fX9_feed th dc tl xl fo fa mn ft wl tp wa wb wc wd we).1) (cE dC dI (va_A [(h0, .inr (9, [.int th, .ref a0, .ref a1, .ref a2, .int dc, .ref a3, .int tl, .ref a4, .int xl, .int fo, .int fa, .ref a5, .int mn, .ref a6, .int ft, .ref a7, .int wl])), (a3, .inl (cB, 3000, .inl tp))] sz) [(h0, .inr (9, [.int (fX9_feed th dc tl xl fo fa mn ft wl tp wa wb wc wd we).2.1, .ref a0, .ref a1, .ref a2, .int dc, .ref a3, .int (fX9_feed th dc tl xl fo fa mn ft wl tp wa wb wc wd we).2.2.1, .ref a4, .int xl, .int fo, .int fa, .ref a5, .int mn, .ref a6, .int ft, .ref a7, .int wl])), (a3, .inl (cB, 3000, .inl (fX9_feed th dc tl xl fo fa mn ft wl tp wa wb wc wd we).2.2.2))]) (va_A [(h0, .inr (9, [.int th, .ref a0, .ref a1, .ref a2, .int dc, .ref a3, .int tl, .ref a4, .int xl, .int fo, .int fa, .ref a5, .int mn, .ref a6, .int ft, .ref a7, .int wl])), (a3, .inl (cB, 3000, .inl tp))] sz)) 0 0 (va_A [(h0, .inr (9, [.int th, .ref a0, .ref a1, .ref a2, .int dc, .ref a3, .int tl, .ref a4, .int xl, .int fo, .int fa, .ref a5, .int mn, .ref a6, .int ft, .ref a7, .int wl])), (a3, .inl (cB, 3000, .inl tp))] sz) := by
  refine Met.ofW (cc := cX9_feed) (maxL := 8) (ret := (some .boolean)) (by decide) rfl ?_
  intro p e s m args below meth c s₁ B hml hv
  obtain ⟨rfl, hsz, hP, hG, hD0⟩ := hv
  have hx := B.exec
  have hb := B.bytes
  have hr := B.returns
  have hts := atoms_spec (ws := wsX9_feed) B.pre
  have hown : s.vm.findClass RX9 = some m.cls := findClass_of_methodNamed B.named
  have hlocks := B.notSynchronized
  subst hsz
  have hD := hD0.self (sz := s.heap.size)
  generalize hAe : va_A [(h0, .inr (9, [.int th, .ref a0, .ref a1, .ref a2, .int dc, .ref a3, .int tl, .ref a4, .int xl, .int fo, .int fa, .ref a5, .int mn, .ref a6, .int ft, .ref a7, .int wl])), (a3, .inl (cB, 3000, .inl tp))] s.heap.size = A at hD ⊢
  have hA : ∀ q : Nat, s.heap.size ≤ q → A q := fun q h => by rw [← hAe]; exact Or.inr h
  obtain ⟨H, hH⟩ : ∃ H : Heap, H = s.heap := ⟨_, rfl⟩
  have hS : va_S A s.heap H [] := by rw [hH]; exact va_S.rf
  rw [← hH] at hP ⊢
  generalize hR : fX9_feed th dc tl xl fo fa mn ft wl tp wa wb wc wd we = R
  unfold fX9_feed at hR
  have hl := lv_entry ([.ref h0, .int wa, .int wb, .int wc, .int wd, .int we]) (n := 8) (Nat.le_of_ble_eq_true rfl)
  rw [lg_entry_eq]
  generalize (lg_sl ([.ref h0, .int wa, .int wb, .int wc, .int wd, .int we]) ++ List.replicate (8 - (lg_sl ([.ref h0, .int wa, .int wb, .int wc, .int wd, .int we])).length) Slot.unset).toArray = ls at hl ⊢
  have hl : lv_has ls 8 [(0, .ref h0), (1, .int wa), (2, .int wb), (3, .int wc), (4, .int wd), (5, .int we)] := hl
  have loop_23 : ∀ (n : Nat), ∀ (k : Int32) (tz : Nat → Int32) (lz : Int32) (H : Heap) (locs : List Loc) (ls : Array Slot), fX9_feed_23 th dc tl xl fo fa mn ft wl tp wa wb wc wd we n k tz lz = R → (0 ≤ k.toInt) → (k.toInt ≤ 20) → (lz.toInt = tl.toInt + k.toInt) → (tl.toInt ≤ 2980) → (20 - k.toInt < ((n : Nat) : Int)) → va_P (dC, dI) vwCl [(h0, .inr (9, [.int 0, .ref a0, .ref a1, .ref a2, .int dc, .ref a3, .int lz, .ref a4, .int xl, .int fo, .int fa, .ref a5, .int mn, .ref a6, .int ft, .ref a7, .int wl])), (a3, .inl (cB, 3000, .inl tz))] H → va_D A [(h0, .inr (9, [.int 0, .ref a0, .ref a1, .ref a2, .int dc, .ref a3, .int lz, .ref a4, .int xl, .int fo, .int fa, .ref a5, .int mn, .ref a6, .int ft, .ref a7, .int wl])), (a3, .inl (cB, 3000, .inl tz))] → va_S A s.heap H locs → lv_has ls 8 [(0, .ref h0), (1, .int wa), (2, .int wb), (3, .int wc), (4, .int wd), (5, .int we), (6, .int k)] → W p l e (headSpec wsX9_feed ({ frames := 0, cells := 0, slots := 0, locals := 0 } : Room)).room s m ([.ref h0, .int wa, .int wb, .int wc, .int wd, .int we] : List Value).toArray below meth c H locs 0 0 (MQ below (va_Qi (fun r _ => r = R.1) (cE dC dI (A) [(h0, .inr (9, [.int R.2.1, .ref a0, .ref a1, .ref a2, .int dc, .ref a3, .int R.2.2.1, .ref a4, .int xl, .int fo, .int fa, .ref a5, .int mn, .ref a6, .int ft, .ref a7, .int wl])), (a3, .inl (cB, 3000, .inl R.2.2.2))]) (A)) ([.ref h0, .int wa, .int wb, .int wc, .int wd, .int we] : List Value).toArray s 0 0 A) (F0 m 23 ls []) := by
    intro n
    induction n with
    | zero => intro k tz lz H locs ls hR hk0 hk1 hz hroom hmu; exfalso; omega
    | succ n ih =>
      intro k tz lz H locs ls hR hk0 hk1 hz hroom hmu hP hD hS hl
      rw [fX9_feed_23] at hR
      refine lv_iload hx hb dX9_feed_23 (lv_at hl 6 rfl) ?_
      refine lv_bipush (v := 20) hx hb dX9_feed_25 (by decide) ?_
      refine lv_icmp_ge (tgt := 113) hx hb dX9_feed_27 (by decide) (fun c_1 => ?_) (fun c_1 => ?_)
      · rw [if_pos c_1] at hR
        refine lv_iconst (v := 1) hx hb dX9_feed_113 (by decide) ?_
        subst hR
        exact W.zret (v := 1) hx hb hr rfl (fun t ht hW => ⟨⟨1, (), rfl, rfl, by rw [ht]; exact hP, hD⟩, hS.F ht⟩) hS.2.2 dX9_feed_114
      · rw [if_neg c_1] at hR
        refine lv_iload_n hx hb dX9_feed_30 rfl (lv_at hl 1 rfl) ?_
        refine lv_istore (lv' := [(7, .int wa), (0, .ref h0), (1, .int wa), (2, .int wb), (3, .int wc), (4, .int wd), (5, .int we), (6, .int k)]) hx hb dX9_feed_31 hl (by decide) rfl (fun ls hl => ?_)
        refine lv_iload hx hb dX9_feed_33 (lv_at hl 7 rfl) ?_
        refine lv_iconst (v := 4) hx hb dX9_feed_35 (by decide) ?_
        refine lv_icmp_lt (tgt := 42) hx hb dX9_feed_36 (by decide) (fun c_2 => ?_) (fun c_2 => ?_)
        · rw [if_pos c_2] at hR
          refine lv_iload hx hb dX9_feed_42 (lv_at hl 7 rfl) ?_
          refine lv_bipush (v := 8) hx hb dX9_feed_44 (by decide) ?_
          refine lv_icmp_lt (tgt := 52) hx hb dX9_feed_46 (by decide) (fun c_3 => ?_) (fun c_3 => ?_)
          · rw [if_pos c_3] at hR
            refine lv_iload hx hb dX9_feed_52 (lv_at hl 7 rfl) ?_
            refine lv_bipush (v := 12) hx hb dX9_feed_54 (by decide) ?_
            refine lv_icmp_lt (tgt := 63) hx hb dX9_feed_56 (by decide) (fun c_4 => ?_) (fun c_4 => ?_)
            · rw [if_pos c_4] at hR
              refine lv_iload hx hb dX9_feed_63 (lv_at hl 7 rfl) ?_
              refine lv_bipush (v := 16) hx hb dX9_feed_65 (by decide) ?_
              refine lv_icmp_lt (tgt := 74) hx hb dX9_feed_67 (by decide) (fun c_5 => ?_) (fun c_5 => ?_)
              · rw [if_pos c_5] at hR
                refine lv_aload_n hx hb dX9_feed_74 rfl (lv_at hl 1 rfl) ?_
                refine va_get (D := (dC, dI)) (ci := 9) (v := .ref a3) (C := RX9) (T := TX9) (N := 17) hx hb hts inc_X9_feed_9 hown hG.1 hP 0 rfl rfl 5 (by decide) (hts (.fieldLink RX9 26 "MappingDeskModel" "tape" "[B") (by decide +kernel)) (fun _ h9 => h9) rfl dX9_feed_75 ?_
                refine lv_aload_n hx hb dX9_feed_78 rfl (lv_at hl 1 rfl) ?_
                refine va_get (D := (dC, dI)) (ci := 9) (v := .int lz) (C := RX9) (T := TX9) (N := 17) hx hb hts inc_X9_feed_9 hown hG.1 hP 0 rfl rfl 6 (by decide) (hts (.fieldLink RX9 30 "MappingDeskModel" "tapeLen" "I") (by decide +kernel)) (fun _ h9 => h9) rfl dX9_feed_79 ?_
                refine lv_iload hx hb dX9_feed_82 (lv_at hl 0 rfl) ?_
                refine lv_bipush (v := 24) hx hb dX9_feed_84 (by decide) ?_
                refine lv_bipush (v := 8) hx hb dX9_feed_86 (by decide) ?_
                refine lv_iload hx hb dX9_feed_88 (lv_at hl 7 rfl) ?_
                refine lv_iconst (v := 3) hx hb dX9_feed_90 (by decide) ?_
                refine lv_iand hx hb dX9_feed_91 ?_
                refine lv_imul hx hb dX9_feed_92 ?_
                refine lv_isub hx hb dX9_feed_93 ?_
                refine lv_ishr hx hb dX9_feed_94 ?_
                refine lv_i2b hx hb dX9_feed_95 rfl ?_
                have b_6 : vp_in lz 3000 := by
                  have k_7 : (20 : Int32).toInt = 20 := by decide
                  have q_8 := i_nle c_1
                  have k_9 : (4 : Int32).toInt = 4 := by decide
                  have q_10 := i_lt c_2
                  have k_11 : (8 : Int32).toInt = 8 := by decide
                  have q_12 := i_lt c_3
                  have k_13 : (12 : Int32).toInt = 12 := by decide
                  have q_14 := i_lt c_4
                  have k_15 : (16 : Int32).toInt = 16 := by decide
                  have q_16 := i_lt c_5
                  refine vin ?_ ?_
                  all_goals (try generalize Int32.toInt (12 : Int32) = z0 at *; try generalize Int32.toInt (16 : Int32) = z1 at *; try generalize Int32.toInt (20 : Int32) = z2 at *; try generalize Int32.toInt lz = z3 at *; try generalize Int32.toInt tl = z4 at *; try generalize Int32.toInt (4 : Int32) = z5 at *; try generalize Int32.toInt (8 : Int32) = z6 at *; try generalize Int32.toInt k = z7 at *; omega)
                refine va_bast hx hb hG.1 hP hD hS 1 0 rfl rfl b_6 dX9_feed_96 (fun H locs hP hD hS => ?_)
                have hP : va_P (dC, dI) vwCl [(h0, .inr (9, [.int 0, .ref a0, .ref a1, .ref a2, .int dc, .ref a3, .int lz, .ref a4, .int xl, .int fo, .int fa, .ref a5, .int mn, .ref a6, .int ft, .ref a7, .int wl])), (a3, .inl (cB, 3000, .inl (upd tz lz.toNatClampNeg (vp_nar .byte (((wa >>> ((24 - (8 * (k &&& 3))) &&& 31)) : Int32).toInt8.toInt32)))))] H := hP
                have hD : va_D A [(h0, .inr (9, [.int 0, .ref a0, .ref a1, .ref a2, .int dc, .ref a3, .int lz, .ref a4, .int xl, .int fo, .int fa, .ref a5, .int mn, .ref a6, .int ft, .ref a7, .int wl])), (a3, .inl (cB, 3000, .inl (upd tz lz.toNatClampNeg (vp_nar .byte (((wa >>> ((24 - (8 * (k &&& 3))) &&& 31)) : Int32).toInt8.toInt32)))))] := hD
                refine lv_aload_n hx hb dX9_feed_97 rfl (lv_at hl 1 rfl) ?_
                refine lv_dup hx hb dX9_feed_98 rfl ?_
                refine va_get (D := (dC, dI)) (ci := 9) (v := .int lz) (C := RX9) (T := TX9) (N := 17) hx hb hts inc_X9_feed_9 hown hG.1 hP 0 rfl rfl 6 (by decide) (hts (.fieldLink RX9 30 "MappingDeskModel" "tapeLen" "I") (by decide +kernel)) (fun _ h9 => h9) rfl dX9_feed_99 ?_
                refine lv_iconst (v := 1) hx hb dX9_feed_102 (by decide) ?_
                refine lv_iadd hx hb dX9_feed_103 ?_
                refine va_put (D := (dC, dI)) (ci := 9) (v := .int (lz + 1)) (ty := .int) (C := RX9) (T := TX9) (N := 17) hx hb hts inc_X9_feed_9 tyX9 tyX9_ok nmX9 hown hG.1 hP hD hS 0 rfl rfl 6 (by decide) (hts (.fieldLink RX9 30 "MappingDeskModel" "tapeLen" "I") (by decide +kernel)) (fun _ h9 => h9) rfl (by decide +kernel) rfl rfl (Nat.le_of_ble_eq_true rfl) dX9_feed_104 (fun H locs hP hD hS => ?_)
                have hP : va_P (dC, dI) vwCl [(h0, .inr (9, [.int 0, .ref a0, .ref a1, .ref a2, .int dc, .ref a3, .int (lz + 1), .ref a4, .int xl, .int fo, .int fa, .ref a5, .int mn, .ref a6, .int ft, .ref a7, .int wl])), (a3, .inl (cB, 3000, .inl (upd tz lz.toNatClampNeg (vp_nar .byte (((wa >>> ((24 - (8 * (k &&& 3))) &&& 31)) : Int32).toInt8.toInt32)))))] H := hP
                have hD : va_D A [(h0, .inr (9, [.int 0, .ref a0, .ref a1, .ref a2, .int dc, .ref a3, .int (lz + 1), .ref a4, .int xl, .int fo, .int fa, .ref a5, .int mn, .ref a6, .int ft, .ref a7, .int wl])), (a3, .inl (cB, 3000, .inl (upd tz lz.toNatClampNeg (vp_nar .byte (((wa >>> ((24 - (8 * (k &&& 3))) &&& 31)) : Int32).toInt8.toInt32)))))] := hD
                refine lv_iinc (v := (k + 1)) (lv' := [(6, .int (k + 1)), (7, .int wa), (0, .ref h0), (1, .int wa), (2, .int wb), (3, .int wc), (4, .int wd), (5, .int we)]) hx hb dX9_feed_107 hl (k := 7) rfl rfl (by decide) rfl (fun ls hl => ?_)
                refine lv_goto (tgt := 23) hx hb dX9_feed_110 (by decide) ?_
                have v_29 : 0 ≤ ((k + 1)).toInt := by
                  have k_30 : (20 : Int32).toInt = 20 := by decide
                  have q_31 := i_nle c_1
                  have k_32 : (4 : Int32).toInt = 4 := by decide
                  have q_33 := i_lt c_2
                  have k_34 : (8 : Int32).toInt = 8 := by decide
                  have q_35 := i_lt c_3
                  have k_36 : (12 : Int32).toInt = 12 := by decide
                  have q_37 := i_lt c_4
                  have k_38 : (16 : Int32).toInt = 16 := by decide
                  have q_39 := i_lt c_5
                  have k_40 : (1 : Int32).toInt = 1 := by decide
                  have t_41 := ti_add (a := k) (b := 1) (by omega) (by omega)
                  try generalize Int32.toInt (k + 1) = z0 at *
                  try generalize Int32.toInt (12 : Int32) = z1 at *
                  try generalize Int32.toInt (16 : Int32) = z2 at *
                  try generalize Int32.toInt (20 : Int32) = z3 at *
                  try generalize Int32.toInt lz = z4 at *
                  try generalize Int32.toInt tl = z5 at *
                  try generalize Int32.toInt (1 : Int32) = z6 at *
                  try generalize Int32.toInt (4 : Int32) = z7 at *
                  try generalize Int32.toInt (8 : Int32) = z8 at *
                  try generalize Int32.toInt k = z9 at *
                  omega
                have v_42 : ((k + 1)).toInt ≤ 20 := by
                  have k_43 : (20 : Int32).toInt = 20 := by decide
                  have q_44 := i_nle c_1
                  have k_45 : (4 : Int32).toInt = 4 := by decide
                  have q_46 := i_lt c_2
                  have k_47 : (8 : Int32).toInt = 8 := by decide
                  have q_48 := i_lt c_3
                  have k_49 : (12 : Int32).toInt = 12 := by decide
                  have q_50 := i_lt c_4
                  have k_51 : (16 : Int32).toInt = 16 := by decide
                  have q_52 := i_lt c_5
                  have k_53 : (1 : Int32).toInt = 1 := by decide
                  have t_54 := ti_add (a := k) (b := 1) (by omega) (by omega)
                  try generalize Int32.toInt (k + 1) = z0 at *
                  try generalize Int32.toInt (12 : Int32) = z1 at *
                  try generalize Int32.toInt (16 : Int32) = z2 at *
                  try generalize Int32.toInt (20 : Int32) = z3 at *
                  try generalize Int32.toInt lz = z4 at *
                  try generalize Int32.toInt tl = z5 at *
                  try generalize Int32.toInt (1 : Int32) = z6 at *
                  try generalize Int32.toInt (4 : Int32) = z7 at *
                  try generalize Int32.toInt (8 : Int32) = z8 at *
                  try generalize Int32.toInt k = z9 at *
                  omega
                have v_55 : ((lz + 1)).toInt = tl.toInt + ((k + 1)).toInt := by
                  have k_56 : (20 : Int32).toInt = 20 := by decide
                  have q_57 := i_nle c_1
                  have k_58 : (4 : Int32).toInt = 4 := by decide
                  have q_59 := i_lt c_2
                  have k_60 : (8 : Int32).toInt = 8 := by decide
                  have q_61 := i_lt c_3
                  have k_62 : (12 : Int32).toInt = 12 := by decide
                  have q_63 := i_lt c_4
                  have k_64 : (16 : Int32).toInt = 16 := by decide
                  have q_65 := i_lt c_5
                  have k_66 : (1 : Int32).toInt = 1 := by decide
                  have t_67 := ti_add (a := k) (b := 1) (by omega) (by omega)
                  have t_68 := ti_add (a := lz) (b := 1) (by omega) (by omega)
                  try generalize Int32.toInt (lz + 1) = z0 at *
                  try generalize Int32.toInt (k + 1) = z1 at *
                  try generalize Int32.toInt (12 : Int32) = z2 at *
                  try generalize Int32.toInt (16 : Int32) = z3 at *
                  try generalize Int32.toInt (20 : Int32) = z4 at *
                  try generalize Int32.toInt lz = z5 at *
                  try generalize Int32.toInt tl = z6 at *
                  try generalize Int32.toInt (1 : Int32) = z7 at *
                  try generalize Int32.toInt (4 : Int32) = z8 at *
                  try generalize Int32.toInt (8 : Int32) = z9 at *
                  try generalize Int32.toInt k = z10 at *
                  omega
                have v_69 : tl.toInt ≤ 2980 := by
                  first | exact hroom | assumption
                have v_70 : 20 - ((k + 1)).toInt < ((n : Nat) : Int) := by
                  have k_71 : (20 : Int32).toInt = 20 := by decide
                  have q_72 := i_nle c_1
                  have k_73 : (4 : Int32).toInt = 4 := by decide
                  have q_74 := i_lt c_2
                  have k_75 : (8 : Int32).toInt = 8 := by decide
                  have q_76 := i_lt c_3
                  have k_77 : (12 : Int32).toInt = 12 := by decide
                  have q_78 := i_lt c_4
                  have k_79 : (16 : Int32).toInt = 16 := by decide
                  have q_80 := i_lt c_5
                  have k_81 : (1 : Int32).toInt = 1 := by decide
                  have t_82 := ti_add (a := k) (b := 1) (by omega) (by omega)
                  try generalize Int32.toInt (k + 1) = z0 at *
                  try generalize Int32.toInt (12 : Int32) = z1 at *
                  try generalize Int32.toInt (16 : Int32) = z2 at *
                  try generalize Int32.toInt (20 : Int32) = z3 at *
                  try generalize Int32.toInt lz = z4 at *
                  try generalize Int32.toInt tl = z5 at *
                  try generalize Int32.toInt (1 : Int32) = z6 at *
                  try generalize Int32.toInt (4 : Int32) = z7 at *
                  try generalize Int32.toInt (8 : Int32) = z8 at *
                  try generalize Int32.toInt k = z9 at *
                  omega
                exact ih ((k + 1)) ((upd tz lz.toNatClampNeg (vp_nar .byte (((wa >>> ((24 - (8 * (k &&& 3))) &&& 31)) : Int32).toInt8.toInt32)))) ((lz + 1)) _ _ ls hR v_29 v_42 v_55 v_69 v_70 hP hD hS (lv_sub hl [2, 3, 4, 5, 6, 7, 0] rfl)
              · rw [if_neg c_5] at hR
                refine lv_iload hx hb dX9_feed_70 (lv_at hl 6 rfl) ?_
                refine lv_istore (lv' := [(7, .int we), (0, .ref h0), (1, .int wa), (2, .int wb), (3, .int wc), (4, .int wd), (5, .int we), (6, .int k)]) hx hb dX9_feed_72 hl (by decide) rfl (fun ls hl => ?_)
                refine lv_aload_n hx hb dX9_feed_74 rfl (lv_at hl 1 rfl) ?_
                refine va_get (D := (dC, dI)) (ci := 9) (v := .ref a3) (C := RX9) (T := TX9) (N := 17) hx hb hts inc_X9_feed_9 hown hG.1 hP 0 rfl rfl 5 (by decide) (hts (.fieldLink RX9 26 "MappingDeskModel" "tape" "[B") (by decide +kernel)) (fun _ h9 => h9) rfl dX9_feed_75 ?_
                refine lv_aload_n hx hb dX9_feed_78 rfl (lv_at hl 1 rfl) ?_
                refine va_get (D := (dC, dI)) (ci := 9) (v := .int lz) (C := RX9) (T := TX9) (N := 17) hx hb hts inc_X9_feed_9 hown hG.1 hP 0 rfl rfl 6 (by decide) (hts (.fieldLink RX9 30 "MappingDeskModel" "tapeLen" "I") (by decide +kernel)) (fun _ h9 => h9) rfl dX9_feed_79 ?_
                refine lv_iload hx hb dX9_feed_82 (lv_at hl 0 rfl) ?_
                refine lv_bipush (v := 24) hx hb dX9_feed_84 (by decide) ?_
                refine lv_bipush (v := 8) hx hb dX9_feed_86 (by decide) ?_
                refine lv_iload hx hb dX9_feed_88 (lv_at hl 7 rfl) ?_
                refine lv_iconst (v := 3) hx hb dX9_feed_90 (by decide) ?_
                refine lv_iand hx hb dX9_feed_91 ?_
                refine lv_imul hx hb dX9_feed_92 ?_
                refine lv_isub hx hb dX9_feed_93 ?_
                refine lv_ishr hx hb dX9_feed_94 ?_
                refine lv_i2b hx hb dX9_feed_95 rfl ?_
                have b_83 : vp_in lz 3000 := by
                  have k_84 : (20 : Int32).toInt = 20 := by decide
                  have q_85 := i_nle c_1
                  have k_86 : (4 : Int32).toInt = 4 := by decide
                  have q_87 := i_lt c_2
                  have k_88 : (8 : Int32).toInt = 8 := by decide
                  have q_89 := i_lt c_3
                  have k_90 : (12 : Int32).toInt = 12 := by decide
                  have q_91 := i_lt c_4
                  have k_92 : (16 : Int32).toInt = 16 := by decide
                  have q_93 := i_nlt c_5
                  refine vin ?_ ?_
                  all_goals (try generalize Int32.toInt (12 : Int32) = z0 at *; try generalize Int32.toInt (16 : Int32) = z1 at *; try generalize Int32.toInt (20 : Int32) = z2 at *; try generalize Int32.toInt lz = z3 at *; try generalize Int32.toInt tl = z4 at *; try generalize Int32.toInt (4 : Int32) = z5 at *; try generalize Int32.toInt (8 : Int32) = z6 at *; try generalize Int32.toInt k = z7 at *; omega)
                refine va_bast hx hb hG.1 hP hD hS 1 0 rfl rfl b_83 dX9_feed_96 (fun H locs hP hD hS => ?_)
                have hP : va_P (dC, dI) vwCl [(h0, .inr (9, [.int 0, .ref a0, .ref a1, .ref a2, .int dc, .ref a3, .int lz, .ref a4, .int xl, .int fo, .int fa, .ref a5, .int mn, .ref a6, .int ft, .ref a7, .int wl])), (a3, .inl (cB, 3000, .inl (upd tz lz.toNatClampNeg (vp_nar .byte (((we >>> ((24 - (8 * (k &&& 3))) &&& 31)) : Int32).toInt8.toInt32)))))] H := hP
                have hD : va_D A [(h0, .inr (9, [.int 0, .ref a0, .ref a1, .ref a2, .int dc, .ref a3, .int lz, .ref a4, .int xl, .int fo, .int fa, .ref a5, .int mn, .ref a6, .int ft, .ref a7, .int wl])), (a3, .inl (cB, 3000, .inl (upd tz lz.toNatClampNeg (vp_nar .byte (((we >>> ((24 - (8 * (k &&& 3))) &&& 31)) : Int32).toInt8.toInt32)))))] := hD
                refine lv_aload_n hx hb dX9_feed_97 rfl (lv_at hl 1 rfl) ?_
                refine lv_dup hx hb dX9_feed_98 rfl ?_
                refine va_get (D := (dC, dI)) (ci := 9) (v := .int lz) (C := RX9) (T := TX9) (N := 17) hx hb hts inc_X9_feed_9 hown hG.1 hP 0 rfl rfl 6 (by decide) (hts (.fieldLink RX9 30 "MappingDeskModel" "tapeLen" "I") (by decide +kernel)) (fun _ h9 => h9) rfl dX9_feed_99 ?_
                refine lv_iconst (v := 1) hx hb dX9_feed_102 (by decide) ?_
                refine lv_iadd hx hb dX9_feed_103 ?_
                refine va_put (D := (dC, dI)) (ci := 9) (v := .int (lz + 1)) (ty := .int) (C := RX9) (T := TX9) (N := 17) hx hb hts inc_X9_feed_9 tyX9 tyX9_ok nmX9 hown hG.1 hP hD hS 0 rfl rfl 6 (by decide) (hts (.fieldLink RX9 30 "MappingDeskModel" "tapeLen" "I") (by decide +kernel)) (fun _ h9 => h9) rfl (by decide +kernel) rfl rfl (Nat.le_of_ble_eq_true rfl) dX9_feed_104 (fun H locs hP hD hS => ?_)
                have hP : va_P (dC, dI) vwCl [(h0, .inr (9, [.int 0, .ref a0, .ref a1, .ref a2, .int dc, .ref a3, .int (lz + 1), .ref a4, .int xl, .int fo, .int fa, .ref a5, .int mn, .ref a6, .int ft, .ref a7, .int wl])), (a3, .inl (cB, 3000, .inl (upd tz lz.toNatClampNeg (vp_nar .byte (((we >>> ((24 - (8 * (k &&& 3))) &&& 31)) : Int32).toInt8.toInt32)))))] H := hP
                have hD : va_D A [(h0, .inr (9, [.int 0, .ref a0, .ref a1, .ref a2, .int dc, .ref a3, .int (lz + 1), .ref a4, .int xl, .int fo, .int fa, .ref a5, .int mn, .ref a6, .int ft, .ref a7, .int wl])), (a3, .inl (cB, 3000, .inl (upd tz lz.toNatClampNeg (vp_nar .byte (((we >>> ((24 - (8 * (k &&& 3))) &&& 31)) : Int32).toInt8.toInt32)))))] := hD
                refine lv_iinc (v := (k + 1)) (lv' := [(6, .int (k + 1)), (7, .int we), (0, .ref h0), (1, .int wa), (2, .int wb), (3, .int wc), (4, .int wd), (5, .int we)]) hx hb dX9_feed_107 hl (k := 7) rfl rfl (by decide) rfl (fun ls hl => ?_)
                refine lv_goto (tgt := 23) hx hb dX9_feed_110 (by decide) ?_
                have v_106 : 0 ≤ ((k + 1)).toInt := by
                  have k_107 : (20 : Int32).toInt = 20 := by decide
                  have q_108 := i_nle c_1
                  have k_109 : (4 : Int32).toInt = 4 := by decide
                  have q_110 := i_lt c_2
                  have k_111 : (8 : Int32).toInt = 8 := by decide
                  have q_112 := i_lt c_3
                  have k_113 : (12 : Int32).toInt = 12 := by decide
                  have q_114 := i_lt c_4
                  have k_115 : (16 : Int32).toInt = 16 := by decide
                  have q_116 := i_nlt c_5
                  have k_117 : (1 : Int32).toInt = 1 := by decide
                  have t_118 := ti_add (a := k) (b := 1) (by omega) (by omega)
                  try generalize Int32.toInt (k + 1) = z0 at *
                  try generalize Int32.toInt (12 : Int32) = z1 at *
                  try generalize Int32.toInt (16 : Int32) = z2 at *
                  try generalize Int32.toInt (20 : Int32) = z3 at *
                  try generalize Int32.toInt lz = z4 at *
                  try generalize Int32.toInt tl = z5 at *
                  try generalize Int32.toInt (1 : Int32) = z6 at *
                  try generalize Int32.toInt (4 : Int32) = z7 at *
                  try generalize Int32.toInt (8 : Int32) = z8 at *
                  try generalize Int32.toInt k = z9 at *
                  omega
                have v_119 : ((k + 1)).toInt ≤ 20 := by
                  have k_120 : (20 : Int32).toInt = 20 := by decide
                  have q_121 := i_nle c_1
                  have k_122 : (4 : Int32).toInt = 4 := by decide
                  have q_123 := i_lt c_2
                  have k_124 : (8 : Int32).toInt = 8 := by decide
                  have q_125 := i_lt c_3
                  have k_126 : (12 : Int32).toInt = 12 := by decide
                  have q_127 := i_lt c_4
                  have k_128 : (16 : Int32).toInt = 16 := by decide
                  have q_129 := i_nlt c_5
                  have k_130 : (1 : Int32).toInt = 1 := by decide
                  have t_131 := ti_add (a := k) (b := 1) (by omega) (by omega)
                  try generalize Int32.toInt (k + 1) = z0 at *
                  try generalize Int32.toInt (12 : Int32) = z1 at *
                  try generalize Int32.toInt (16 : Int32) = z2 at *
                  try generalize Int32.toInt (20 : Int32) = z3 at *
                  try generalize Int32.toInt lz = z4 at *
                  try generalize Int32.toInt tl = z5 at *
                  try generalize Int32.toInt (1 : Int32) = z6 at *
                  try generalize Int32.toInt (4 : Int32) = z7 at *
                  try generalize Int32.toInt (8 : Int32) = z8 at *
                  try generalize Int32.toInt k = z9 at *
                  omega
                have v_132 : ((lz + 1)).toInt = tl.toInt + ((k + 1)).toInt := by
                  have k_133 : (20 : Int32).toInt = 20 := by decide
                  have q_134 := i_nle c_1
                  have k_135 : (4 : Int32).toInt = 4 := by decide
                  have q_136 := i_lt c_2
                  have k_137 : (8 : Int32).toInt = 8 := by decide
                  have q_138 := i_lt c_3
                  have k_139 : (12 : Int32).toInt = 12 := by decide
                  have q_140 := i_lt c_4
                  have k_141 : (16 : Int32).toInt = 16 := by decide
                  have q_142 := i_nlt c_5
                  have k_143 : (1 : Int32).toInt = 1 := by decide
                  have t_144 := ti_add (a := k) (b := 1) (by omega) (by omega)
                  have t_145 := ti_add (a := lz) (b := 1) (by omega) (by omega)
                  try generalize Int32.toInt (lz + 1) = z0 at *
                  try generalize Int32.toInt (k + 1) = z1 at *
                  try generalize Int32.toInt (12 : Int32) = z2 at *
                  try generalize Int32.toInt (16 : Int32) = z3 at *
                  try generalize Int32.toInt (20 : Int32) = z4 at *
                  try generalize Int32.toInt lz = z5 at *
                  try generalize Int32.toInt tl = z6 at *
                  try generalize Int32.toInt (1 : Int32) = z7 at *
                  try generalize Int32.toInt (4 : Int32) = z8 at *
                  try generalize Int32.toInt (8 : Int32) = z9 at *
                  try generalize Int32.toInt k = z10 at *
                  omega
                have v_146 : tl.toInt ≤ 2980 := by
                  first | exact hroom | assumption
                have v_147 : 20 - ((k + 1)).toInt < ((n : Nat) : Int) := by
                  have k_148 : (20 : Int32).toInt = 20 := by decide
                  have q_149 := i_nle c_1
                  have k_150 : (4 : Int32).toInt = 4 := by decide
                  have q_151 := i_lt c_2
                  have k_152 : (8 : Int32).toInt = 8 := by decide
                  have q_153 := i_lt c_3
                  have k_154 : (12 : Int32).toInt = 12 := by decide
                  have q_155 := i_lt c_4
                  have k_156 : (16 : Int32).toInt = 16 := by decide
                  have q_157 := i_nlt c_5
                  have k_158 : (1 : Int32).toInt = 1 := by decide
                  have t_159 := ti_add (a := k) (b := 1) (by omega) (by omega)
                  try generalize Int32.toInt (k + 1) = z0 at *
                  try generalize Int32.toInt (12 : Int32) = z1 at *
                  try generalize Int32.toInt (16 : Int32) = z2 at *
                  try generalize Int32.toInt (20 : Int32) = z3 at *
                  try generalize Int32.toInt lz = z4 at *
                  try generalize Int32.toInt tl = z5 at *
                  try generalize Int32.toInt (1 : Int32) = z6 at *
                  try generalize Int32.toInt (4 : Int32) = z7 at *
                  try generalize Int32.toInt (8 : Int32) = z8 at *
                  try generalize Int32.toInt k = z9 at *
                  omega
                exact ih ((k + 1)) ((upd tz lz.toNatClampNeg (vp_nar .byte (((we >>> ((24 - (8 * (k &&& 3))) &&& 31)) : Int32).toInt8.toInt32)))) ((lz + 1)) _ _ ls hR v_106 v_119 v_132 v_146 v_147 hP hD hS (lv_sub hl [2, 3, 4, 5, 6, 7, 0] rfl)
            · rw [if_neg c_4] at hR
              refine lv_iload hx hb dX9_feed_59 (lv_at hl 5 rfl) ?_
              refine lv_istore (lv' := [(7, .int wd), (0, .ref h0), (1, .int wa), (2, .int wb), (3, .int wc), (4, .int wd), (5, .int we), (6, .int k)]) hx hb dX9_feed_61 hl (by decide) rfl (fun ls hl => ?_)
              refine lv_iload hx hb dX9_feed_63 (lv_at hl 7 rfl) ?_
              refine lv_bipush (v := 16) hx hb dX9_feed_65 (by decide) ?_
              refine lv_icmp_lt (tgt := 74) hx hb dX9_feed_67 (by decide) (fun c_160 => ?_) (fun c_160 => ?_)
              · rw [if_pos c_160] at hR
                refine lv_aload_n hx hb dX9_feed_74 rfl (lv_at hl 1 rfl) ?_
                refine va_get (D := (dC, dI)) (ci := 9) (v := .ref a3) (C := RX9) (T := TX9) (N := 17) hx hb hts inc_X9_feed_9 hown hG.1 hP 0 rfl rfl 5 (by decide) (hts (.fieldLink RX9 26 "MappingDeskModel" "tape" "[B") (by decide +kernel)) (fun _ h9 => h9) rfl dX9_feed_75 ?_
                refine lv_aload_n hx hb dX9_feed_78 rfl (lv_at hl 1 rfl) ?_
                refine va_get (D := (dC, dI)) (ci := 9) (v := .int lz) (C := RX9) (T := TX9) (N := 17) hx hb hts inc_X9_feed_9 hown hG.1 hP 0 rfl rfl 6 (by decide) (hts (.fieldLink RX9 30 "MappingDeskModel" "tapeLen" "I") (by decide +kernel)) (fun _ h9 => h9) rfl dX9_feed_79 ?_
                refine lv_iload hx hb dX9_feed_82 (lv_at hl 0 rfl) ?_
                refine lv_bipush (v := 24) hx hb dX9_feed_84 (by decide) ?_
                refine lv_bipush (v := 8) hx hb dX9_feed_86 (by decide) ?_
                refine lv_iload hx hb dX9_feed_88 (lv_at hl 7 rfl) ?_
                refine lv_iconst (v := 3) hx hb dX9_feed_90 (by decide) ?_
                refine lv_iand hx hb dX9_feed_91 ?_
                refine lv_imul hx hb dX9_feed_92 ?_
                refine lv_isub hx hb dX9_feed_93 ?_
                refine lv_ishr hx hb dX9_feed_94 ?_
                refine lv_i2b hx hb dX9_feed_95 rfl ?_
                have b_161 : vp_in lz 3000 := by
                  have k_162 : (20 : Int32).toInt = 20 := by decide
                  have q_163 := i_nle c_1
                  have k_164 : (4 : Int32).toInt = 4 := by decide
                  have q_165 := i_lt c_2
                  have k_166 : (8 : Int32).toInt = 8 := by decide
                  have q_167 := i_lt c_3
                  have k_168 : (12 : Int32).toInt = 12 := by decide
                  have q_169 := i_nlt c_4
                  have k_170 : (16 : Int32).toInt = 16 := by decide
                  have q_171 := i_lt c_160
                  refine vin ?_ ?_
                  all_goals (try generalize Int32.toInt (12 : Int32) = z0 at *; try generalize Int32.toInt (16 : Int32) = z1 at *; try generalize Int32.toInt (20 : Int32) = z2 at *; try generalize Int32.toInt lz = z3 at *; try generalize Int32.toInt tl = z4 at *; try generalize Int32.toInt (4 : Int32) = z5 at *; try generalize Int32.toInt (8 : Int32) = z6 at *; try generalize Int32.toInt k = z7 at *; omega)
                refine va_bast hx hb hG.1 hP hD hS 1 0 rfl rfl b_161 dX9_feed_96 (fun H locs hP hD hS => ?_)
                have hP : va_P (dC, dI) vwCl [(h0, .inr (9, [.int 0, .ref a0, .ref a1, .ref a2, .int dc, .ref a3, .int lz, .ref a4, .int xl, .int fo, .int fa, .ref a5, .int mn, .ref a6, .int ft, .ref a7, .int wl])), (a3, .inl (cB, 3000, .inl (upd tz lz.toNatClampNeg (vp_nar .byte (((wd >>> ((24 - (8 * (k &&& 3))) &&& 31)) : Int32).toInt8.toInt32)))))] H := hP
                have hD : va_D A [(h0, .inr (9, [.int 0, .ref a0, .ref a1, .ref a2, .int dc, .ref a3, .int lz, .ref a4, .int xl, .int fo, .int fa, .ref a5, .int mn, .ref a6, .int ft, .ref a7, .int wl])), (a3, .inl (cB, 3000, .inl (upd tz lz.toNatClampNeg (vp_nar .byte (((wd >>> ((24 - (8 * (k &&& 3))) &&& 31)) : Int32).toInt8.toInt32)))))] := hD
                refine lv_aload_n hx hb dX9_feed_97 rfl (lv_at hl 1 rfl) ?_
                refine lv_dup hx hb dX9_feed_98 rfl ?_
                refine va_get (D := (dC, dI)) (ci := 9) (v := .int lz) (C := RX9) (T := TX9) (N := 17) hx hb hts inc_X9_feed_9 hown hG.1 hP 0 rfl rfl 6 (by decide) (hts (.fieldLink RX9 30 "MappingDeskModel" "tapeLen" "I") (by decide +kernel)) (fun _ h9 => h9) rfl dX9_feed_99 ?_
                refine lv_iconst (v := 1) hx hb dX9_feed_102 (by decide) ?_
                refine lv_iadd hx hb dX9_feed_103 ?_
                refine va_put (D := (dC, dI)) (ci := 9) (v := .int (lz + 1)) (ty := .int) (C := RX9) (T := TX9) (N := 17) hx hb hts inc_X9_feed_9 tyX9 tyX9_ok nmX9 hown hG.1 hP hD hS 0 rfl rfl 6 (by decide) (hts (.fieldLink RX9 30 "MappingDeskModel" "tapeLen" "I") (by decide +kernel)) (fun _ h9 => h9) rfl (by decide +kernel) rfl rfl (Nat.le_of_ble_eq_true rfl) dX9_feed_104 (fun H locs hP hD hS => ?_)
                have hP : va_P (dC, dI) vwCl [(h0, .inr (9, [.int 0, .ref a0, .ref a1, .ref a2, .int dc, .ref a3, .int (lz + 1), .ref a4, .int xl, .int fo, .int fa, .ref a5, .int mn, .ref a6, .int ft, .ref a7, .int wl])), (a3, .inl (cB, 3000, .inl (upd tz lz.toNatClampNeg (vp_nar .byte (((wd >>> ((24 - (8 * (k &&& 3))) &&& 31)) : Int32).toInt8.toInt32)))))] H := hP
                have hD : va_D A [(h0, .inr (9, [.int 0, .ref a0, .ref a1, .ref a2, .int dc, .ref a3, .int (lz + 1), .ref a4, .int xl, .int fo, .int fa, .ref a5, .int mn, .ref a6, .int ft, .ref a7, .int wl])), (a3, .inl (cB, 3000, .inl (upd tz lz.toNatClampNeg (vp_nar .byte (((wd >>> ((24 - (8 * (k &&& 3))) &&& 31)) : Int32).toInt8.toInt32)))))] := hD
                refine lv_iinc (v := (k + 1)) (lv' := [(6, .int (k + 1)), (7, .int wd), (0, .ref h0), (1, .int wa), (2, .int wb), (3, .int wc), (4, .int wd), (5, .int we)]) hx hb dX9_feed_107 hl (k := 7) rfl rfl (by decide) rfl (fun ls hl => ?_)
                refine lv_goto (tgt := 23) hx hb dX9_feed_110 (by decide) ?_
                have v_184 : 0 ≤ ((k + 1)).toInt := by
                  have k_185 : (20 : Int32).toInt = 20 := by decide
                  have q_186 := i_nle c_1
                  have k_187 : (4 : Int32).toInt = 4 := by decide
                  have q_188 := i_lt c_2
                  have k_189 : (8 : Int32).toInt = 8 := by decide
                  have q_190 := i_lt c_3
                  have k_191 : (12 : Int32).toInt = 12 := by decide
                  have q_192 := i_nlt c_4
                  have k_193 : (16 : Int32).toInt = 16 := by decide
                  have q_194 := i_lt c_160
                  have k_195 : (1 : Int32).toInt = 1 := by decide
                  have t_196 := ti_add (a := k) (b := 1) (by omega) (by omega)
                  try generalize Int32.toInt (k + 1) = z0 at *
                  try generalize Int32.toInt (12 : Int32) = z1 at *
                  try generalize Int32.toInt (16 : Int32) = z2 at *
                  try generalize Int32.toInt (20 : Int32) = z3 at *
                  try generalize Int32.toInt lz = z4 at *
                  try generalize Int32.toInt tl = z5 at *
                  try generalize Int32.toInt (1 : Int32) = z6 at *
                  try generalize Int32.toInt (4 : Int32) = z7 at *
                  try generalize Int32.toInt (8 : Int32) = z8 at *
                  try generalize Int32.toInt k = z9 at *
                  omega
                have v_197 : ((k + 1)).toInt ≤ 20 := by
                  have k_198 : (20 : Int32).toInt = 20 := by decide
                  have q_199 := i_nle c_1
                  have k_200 : (4 : Int32).toInt = 4 := by decide
                  have q_201 := i_lt c_2
                  have k_202 : (8 : Int32).toInt = 8 := by decide
                  have q_203 := i_lt c_3
                  have k_204 : (12 : Int32).toInt = 12 := by decide
                  have q_205 := i_nlt c_4
                  have k_206 : (16 : Int32).toInt = 16 := by decide
                  have q_207 := i_lt c_160
                  have k_208 : (1 : Int32).toInt = 1 := by decide
                  have t_209 := ti_add (a := k) (b := 1) (by omega) (by omega)
                  try generalize Int32.toInt (k + 1) = z0 at *
                  try generalize Int32.toInt (12 : Int32) = z1 at *
                  try generalize Int32.toInt (16 : Int32) = z2 at *
                  try generalize Int32.toInt (20 : Int32) = z3 at *
                  try generalize Int32.toInt lz = z4 at *
                  try generalize Int32.toInt tl = z5 at *
                  try generalize Int32.toInt (1 : Int32) = z6 at *
                  try generalize Int32.toInt (4 : Int32) = z7 at *
                  try generalize Int32.toInt (8 : Int32) = z8 at *
                  try generalize Int32.toInt k = z9 at *
                  omega
                have v_210 : ((lz + 1)).toInt = tl.toInt + ((k + 1)).toInt := by
                  have k_211 : (20 : Int32).toInt = 20 := by decide
                  have q_212 := i_nle c_1
                  have k_213 : (4 : Int32).toInt = 4 := by decide
                  have q_214 := i_lt c_2
                  have k_215 : (8 : Int32).toInt = 8 := by decide
                  have q_216 := i_lt c_3
                  have k_217 : (12 : Int32).toInt = 12 := by decide
                  have q_218 := i_nlt c_4
                  have k_219 : (16 : Int32).toInt = 16 := by decide
                  have q_220 := i_lt c_160
                  have k_221 : (1 : Int32).toInt = 1 := by decide
                  have t_222 := ti_add (a := k) (b := 1) (by omega) (by omega)
                  have t_223 := ti_add (a := lz) (b := 1) (by omega) (by omega)
                  try generalize Int32.toInt (lz + 1) = z0 at *
                  try generalize Int32.toInt (k + 1) = z1 at *
                  try generalize Int32.toInt (12 : Int32) = z2 at *
                  try generalize Int32.toInt (16 : Int32) = z3 at *
                  try generalize Int32.toInt (20 : Int32) = z4 at *
                  try generalize Int32.toInt lz = z5 at *
                  try generalize Int32.toInt tl = z6 at *
                  try generalize Int32.toInt (1 : Int32) = z7 at *
                  try generalize Int32.toInt (4 : Int32) = z8 at *
                  try generalize Int32.toInt (8 : Int32) = z9 at *
                  try generalize Int32.toInt k = z10 at *
                  omega
                have v_224 : tl.toInt ≤ 2980 := by
                  first | exact hroom | assumption
                have v_225 : 20 - ((k + 1)).toInt < ((n : Nat) : Int) := by
                  have k_226 : (20 : Int32).toInt = 20 := by decide
                  have q_227 := i_nle c_1
                  have k_228 : (4 : Int32).toInt = 4 := by decide
                  have q_229 := i_lt c_2
                  have k_230 : (8 : Int32).toInt = 8 := by decide
                  have q_231 := i_lt c_3
                  have k_232 : (12 : Int32).toInt = 12 := by decide
                  have q_233 := i_nlt c_4
                  have k_234 : (16 : Int32).toInt = 16 := by decide
                  have q_235 := i_lt c_160
                  have k_236 : (1 : Int32).toInt = 1 := by decide
                  have t_237 := ti_add (a := k) (b := 1) (by omega) (by omega)
                  try generalize Int32.toInt (k + 1) = z0 at *
                  try generalize Int32.toInt (12 : Int32) = z1 at *
                  try generalize Int32.toInt (16 : Int32) = z2 at *
                  try generalize Int32.toInt (20 : Int32) = z3 at *
                  try generalize Int32.toInt lz = z4 at *
                  try generalize Int32.toInt tl = z5 at *
                  try generalize Int32.toInt (1 : Int32) = z6 at *
                  try generalize Int32.toInt (4 : Int32) = z7 at *
                  try generalize Int32.toInt (8 : Int32) = z8 at *
                  try generalize Int32.toInt k = z9 at *
                  omega
                exact ih ((k + 1)) ((upd tz lz.toNatClampNeg (vp_nar .byte (((wd >>> ((24 - (8 * (k &&& 3))) &&& 31)) : Int32).toInt8.toInt32)))) ((lz + 1)) _ _ ls hR v_184 v_197 v_210 v_224 v_225 hP hD hS (lv_sub hl [2, 3, 4, 5, 6, 7, 0] rfl)
              · rw [if_neg c_160] at hR
                refine lv_iload hx hb dX9_feed_70 (lv_at hl 6 rfl) ?_
                refine lv_istore (lv' := [(7, .int we), (0, .ref h0), (1, .int wa), (2, .int wb), (3, .int wc), (4, .int wd), (5, .int we), (6, .int k)]) hx hb dX9_feed_72 hl (by decide) rfl (fun ls hl => ?_)
                refine lv_aload_n hx hb dX9_feed_74 rfl (lv_at hl 1 rfl) ?_
                refine va_get (D := (dC, dI)) (ci := 9) (v := .ref a3) (C := RX9) (T := TX9) (N := 17) hx hb hts inc_X9_feed_9 hown hG.1 hP 0 rfl rfl 5 (by decide) (hts (.fieldLink RX9 26 "MappingDeskModel" "tape" "[B") (by decide +kernel)) (fun _ h9 => h9) rfl dX9_feed_75 ?_
                refine lv_aload_n hx hb dX9_feed_78 rfl (lv_at hl 1 rfl) ?_
                refine va_get (D := (dC, dI)) (ci := 9) (v := .int lz) (C := RX9) (T := TX9) (N := 17) hx hb hts inc_X9_feed_9 hown hG.1 hP 0 rfl rfl 6 (by decide) (hts (.fieldLink RX9 30 "MappingDeskModel" "tapeLen" "I") (by decide +kernel)) (fun _ h9 => h9) rfl dX9_feed_79 ?_
                refine lv_iload hx hb dX9_feed_82 (lv_at hl 0 rfl) ?_
                refine lv_bipush (v := 24) hx hb dX9_feed_84 (by decide) ?_
                refine lv_bipush (v := 8) hx hb dX9_feed_86 (by decide) ?_
                refine lv_iload hx hb dX9_feed_88 (lv_at hl 7 rfl) ?_
                refine lv_iconst (v := 3) hx hb dX9_feed_90 (by decide) ?_
                refine lv_iand hx hb dX9_feed_91 ?_
                refine lv_imul hx hb dX9_feed_92 ?_
                refine lv_isub hx hb dX9_feed_93 ?_
                refine lv_ishr hx hb dX9_feed_94 ?_
                refine lv_i2b hx hb dX9_feed_95 rfl ?_
                have b_238 : vp_in lz 3000 := by
                  have k_239 : (20 : Int32).toInt = 20 := by decide
                  have q_240 := i_nle c_1
                  have k_241 : (4 : Int32).toInt = 4 := by decide
                  have q_242 := i_lt c_2
                  have k_243 : (8 : Int32).toInt = 8 := by decide
                  have q_244 := i_lt c_3
                  have k_245 : (12 : Int32).toInt = 12 := by decide
                  have q_246 := i_nlt c_4
                  have k_247 : (16 : Int32).toInt = 16 := by decide
                  have q_248 := i_nlt c_160
                  refine vin ?_ ?_
                  all_goals (try generalize Int32.toInt (12 : Int32) = z0 at *; try generalize Int32.toInt (16 : Int32) = z1 at *; try generalize Int32.toInt (20 : Int32) = z2 at *; try generalize Int32.toInt lz = z3 at *; try generalize Int32.toInt tl = z4 at *; try generalize Int32.toInt (4 : Int32) = z5 at *; try generalize Int32.toInt (8 : Int32) = z6 at *; try generalize Int32.toInt k = z7 at *; omega)
                refine va_bast hx hb hG.1 hP hD hS 1 0 rfl rfl b_238 dX9_feed_96 (fun H locs hP hD hS => ?_)
                have hP : va_P (dC, dI) vwCl [(h0, .inr (9, [.int 0, .ref a0, .ref a1, .ref a2, .int dc, .ref a3, .int lz, .ref a4, .int xl, .int fo, .int fa, .ref a5, .int mn, .ref a6, .int ft, .ref a7, .int wl])), (a3, .inl (cB, 3000, .inl (upd tz lz.toNatClampNeg (vp_nar .byte (((we >>> ((24 - (8 * (k &&& 3))) &&& 31)) : Int32).toInt8.toInt32)))))] H := hP
                have hD : va_D A [(h0, .inr (9, [.int 0, .ref a0, .ref a1, .ref a2, .int dc, .ref a3, .int lz, .ref a4, .int xl, .int fo, .int fa, .ref a5, .int mn, .ref a6, .int ft, .ref a7, .int wl])), (a3, .inl (cB, 3000, .inl (upd tz lz.toNatClampNeg (vp_nar .byte (((we >>> ((24 - (8 * (k &&& 3))) &&& 31)) : Int32).toInt8.toInt32)))))] := hD
                refine lv_aload_n hx hb dX9_feed_97 rfl (lv_at hl 1 rfl) ?_
                refine lv_dup hx hb dX9_feed_98 rfl ?_
                refine va_get (D := (dC, dI)) (ci := 9) (v := .int lz) (C := RX9) (T := TX9) (N := 17) hx hb hts inc_X9_feed_9 hown hG.1 hP 0 rfl rfl 6 (by decide) (hts (.fieldLink RX9 30 "MappingDeskModel" "tapeLen" "I") (by decide +kernel)) (fun _ h9 => h9) rfl dX9_feed_99 ?_
                refine lv_iconst (v := 1) hx hb dX9_feed_102 (by decide) ?_
                refine lv_iadd hx hb dX9_feed_103 ?_
                refine va_put (D := (dC, dI)) (ci := 9) (v := .int (lz + 1)) (ty := .int) (C := RX9) (T := TX9) (N := 17) hx hb hts inc_X9_feed_9 tyX9 tyX9_ok nmX9 hown hG.1 hP hD hS 0 rfl rfl 6 (by decide) (hts (.fieldLink RX9 30 "MappingDeskModel" "tapeLen" "I") (by decide +kernel)) (fun _ h9 => h9) rfl (by decide +kernel) rfl rfl (Nat.le_of_ble_eq_true rfl) dX9_feed_104 (fun H locs hP hD hS => ?_)
                have hP : va_P (dC, dI) vwCl [(h0, .inr (9, [.int 0, .ref a0, .ref a1, .ref a2, .int dc, .ref a3, .int (lz + 1), .ref a4, .int xl, .int fo, .int fa, .ref a5, .int mn, .ref a6, .int ft, .ref a7, .int wl])), (a3, .inl (cB, 3000, .inl (upd tz lz.toNatClampNeg (vp_nar .byte (((we >>> ((24 - (8 * (k &&& 3))) &&& 31)) : Int32).toInt8.toInt32)))))] H := hP
                have hD : va_D A [(h0, .inr (9, [.int 0, .ref a0, .ref a1, .ref a2, .int dc, .ref a3, .int (lz + 1), .ref a4, .int xl, .int fo, .int fa, .ref a5, .int mn, .ref a6, .int ft, .ref a7, .int wl])), (a3, .inl (cB, 3000, .inl (upd tz lz.toNatClampNeg (vp_nar .byte (((we >>> ((24 - (8 * (k &&& 3))) &&& 31)) : Int32).toInt8.toInt32)))))] := hD
                refine lv_iinc (v := (k + 1)) (lv' := [(6, .int (k + 1)), (7, .int we), (0, .ref h0), (1, .int wa), (2, .int wb), (3, .int wc), (4, .int wd), (5, .int we)]) hx hb dX9_feed_107 hl (k := 7) rfl rfl (by decide) rfl (fun ls hl => ?_)
                refine lv_goto (tgt := 23) hx hb dX9_feed_110 (by decide) ?_
                have v_261 : 0 ≤ ((k + 1)).toInt := by
                  have k_262 : (20 : Int32).toInt = 20 := by decide
                  have q_263 := i_nle c_1
                  have k_264 : (4 : Int32).toInt = 4 := by decide
                  have q_265 := i_lt c_2
                  have k_266 : (8 : Int32).toInt = 8 := by decide
                  have q_267 := i_lt c_3
                  have k_268 : (12 : Int32).toInt = 12 := by decide
                  have q_269 := i_nlt c_4
                  have k_270 : (16 : Int32).toInt = 16 := by decide
                  have q_271 := i_nlt c_160
                  have k_272 : (1 : Int32).toInt = 1 := by decide
                  have t_273 := ti_add (a := k) (b := 1) (by omega) (by omega)
                  try generalize Int32.toInt (k + 1) = z0 at *
                  try generalize Int32.toInt (12 : Int32) = z1 at *
                  try generalize Int32.toInt (16 : Int32) = z2 at *
                  try generalize Int32.toInt (20 : Int32) = z3 at *
                  try generalize Int32.toInt lz = z4 at *
                  try generalize Int32.toInt tl = z5 at *
                  try generalize Int32.toInt (1 : Int32) = z6 at *
                  try generalize Int32.toInt (4 : Int32) = z7 at *
                  try generalize Int32.toInt (8 : Int32) = z8 at *
                  try generalize Int32.toInt k = z9 at *
                  omega
                have v_274 : ((k + 1)).toInt ≤ 20 := by
                  have k_275 : (20 : Int32).toInt = 20 := by decide
                  have q_276 := i_nle c_1
                  have k_277 : (4 : Int32).toInt = 4 := by decide
                  have q_278 := i_lt c_2
                  have k_279 : (8 : Int32).toInt = 8 := by decide
                  have q_280 := i_lt c_3
                  have k_281 : (12 : Int32).toInt = 12 := by decide
                  have q_282 := i_nlt c_4
                  have k_283 : (16 : Int32).toInt = 16 := by decide
                  have q_284 := i_nlt c_160
                  have k_285 : (1 : Int32).toInt = 1 := by decide
                  have t_286 := ti_add (a := k) (b := 1) (by omega) (by omega)
                  try generalize Int32.toInt (k + 1) = z0 at *
                  try generalize Int32.toInt (12 : Int32) = z1 at *
                  try generalize Int32.toInt (16 : Int32) = z2 at *
                  try generalize Int32.toInt (20 : Int32) = z3 at *
                  try generalize Int32.toInt lz = z4 at *
                  try generalize Int32.toInt tl = z5 at *
                  try generalize Int32.toInt (1 : Int32) = z6 at *
                  try generalize Int32.toInt (4 : Int32) = z7 at *
                  try generalize Int32.toInt (8 : Int32) = z8 at *
                  try generalize Int32.toInt k = z9 at *
                  omega
                have v_287 : ((lz + 1)).toInt = tl.toInt + ((k + 1)).toInt := by
                  have k_288 : (20 : Int32).toInt = 20 := by decide
                  have q_289 := i_nle c_1
                  have k_290 : (4 : Int32).toInt = 4 := by decide
                  have q_291 := i_lt c_2
                  have k_292 : (8 : Int32).toInt = 8 := by decide
                  have q_293 := i_lt c_3
                  have k_294 : (12 : Int32).toInt = 12 := by decide
                  have q_295 := i_nlt c_4
                  have k_296 : (16 : Int32).toInt = 16 := by decide
                  have q_297 := i_nlt c_160
                  have k_298 : (1 : Int32).toInt = 1 := by decide
                  have t_299 := ti_add (a := k) (b := 1) (by omega) (by omega)
                  have t_300 := ti_add (a := lz) (b := 1) (by omega) (by omega)
                  try generalize Int32.toInt (lz + 1) = z0 at *
                  try generalize Int32.toInt (k + 1) = z1 at *
                  try generalize Int32.toInt (12 : Int32) = z2 at *
                  try generalize Int32.toInt (16 : Int32) = z3 at *
                  try generalize Int32.toInt (20 : Int32) = z4 at *
                  try generalize Int32.toInt lz = z5 at *
                  try generalize Int32.toInt tl = z6 at *
                  try generalize Int32.toInt (1 : Int32) = z7 at *
                  try generalize Int32.toInt (4 : Int32) = z8 at *
                  try generalize Int32.toInt (8 : Int32) = z9 at *
                  try generalize Int32.toInt k = z10 at *
                  omega
                have v_301 : tl.toInt ≤ 2980 := by
                  first | exact hroom | assumption
                have v_302 : 20 - ((k + 1)).toInt < ((n : Nat) : Int) := by
                  have k_303 : (20 : Int32).toInt = 20 := by decide
                  have q_304 := i_nle c_1
                  have k_305 : (4 : Int32).toInt = 4 := by decide
                  have q_306 := i_lt c_2
                  have k_307 : (8 : Int32).toInt = 8 := by decide
                  have q_308 := i_lt c_3
                  have k_309 : (12 : Int32).toInt = 12 := by decide
                  have q_310 := i_nlt c_4
                  have k_311 : (16 : Int32).toInt = 16 := by decide
                  have q_312 := i_nlt c_160
                  have k_313 : (1 : Int32).toInt = 1 := by decide
                  have t_314 := ti_add (a := k) (b := 1) (by omega) (by omega)
                  try generalize Int32.toInt (k + 1) = z0 at *
                  try generalize Int32.toInt (12 : Int32) = z1 at *
                  try generalize Int32.toInt (16 : Int32) = z2 at *
                  try generalize Int32.toInt (20 : Int32) = z3 at *
                  try generalize Int32.toInt lz = z4 at *
                  try generalize Int32.toInt tl = z5 at *
                  try generalize Int32.toInt (1 : Int32) = z6 at *
                  try generalize Int32.toInt (4 : Int32) = z7 at *
                  try generalize Int32.toInt (8 : Int32) = z8 at *
                  try generalize Int32.toInt k = z9 at *
                  omega
                exact ih ((k + 1)) ((upd tz lz.toNatClampNeg (vp_nar .byte (((we >>> ((24 - (8 * (k &&& 3))) &&& 31)) : Int32).toInt8.toInt32)))) ((lz + 1)) _ _ ls hR v_261 v_274 v_287 v_301 v_302 hP hD hS (lv_sub hl [2, 3, 4, 5, 6, 7, 0] rfl)
          · rw [if_neg c_3] at hR
            refine lv_iload_n hx hb dX9_feed_49 rfl (lv_at hl 4 rfl) ?_
            refine lv_istore (lv' := [(7, .int wc), (0, .ref h0), (1, .int wa), (2, .int wb), (3, .int wc), (4, .int wd), (5, .int we), (6, .int k)]) hx hb dX9_feed_50 hl (by decide) rfl (fun ls hl => ?_)
            refine lv_iload hx hb dX9_feed_52 (lv_at hl 7 rfl) ?_
            refine lv_bipush (v := 12) hx hb dX9_feed_54 (by decide) ?_
            refine lv_icmp_lt (tgt := 63) hx hb dX9_feed_56 (by decide) (fun c_315 => ?_) (fun c_315 => ?_)
            · rw [if_pos c_315] at hR
              refine lv_iload hx hb dX9_feed_63 (lv_at hl 7 rfl) ?_
              refine lv_bipush (v := 16) hx hb dX9_feed_65 (by decide) ?_
              refine lv_icmp_lt (tgt := 74) hx hb dX9_feed_67 (by decide) (fun c_316 => ?_) (fun c_316 => ?_)
              · rw [if_pos c_316] at hR
                refine lv_aload_n hx hb dX9_feed_74 rfl (lv_at hl 1 rfl) ?_
                refine va_get (D := (dC, dI)) (ci := 9) (v := .ref a3) (C := RX9) (T := TX9) (N := 17) hx hb hts inc_X9_feed_9 hown hG.1 hP 0 rfl rfl 5 (by decide) (hts (.fieldLink RX9 26 "MappingDeskModel" "tape" "[B") (by decide +kernel)) (fun _ h9 => h9) rfl dX9_feed_75 ?_
                refine lv_aload_n hx hb dX9_feed_78 rfl (lv_at hl 1 rfl) ?_
                refine va_get (D := (dC, dI)) (ci := 9) (v := .int lz) (C := RX9) (T := TX9) (N := 17) hx hb hts inc_X9_feed_9 hown hG.1 hP 0 rfl rfl 6 (by decide) (hts (.fieldLink RX9 30 "MappingDeskModel" "tapeLen" "I") (by decide +kernel)) (fun _ h9 => h9) rfl dX9_feed_79 ?_
                refine lv_iload hx hb dX9_feed_82 (lv_at hl 0 rfl) ?_
                refine lv_bipush (v := 24) hx hb dX9_feed_84 (by decide) ?_
                refine lv_bipush (v := 8) hx hb dX9_feed_86 (by decide) ?_
                refine lv_iload hx hb dX9_feed_88 (lv_at hl 7 rfl) ?_
                refine lv_iconst (v := 3) hx hb dX9_feed_90 (by decide) ?_
                refine lv_iand hx hb dX9_feed_91 ?_
                refine lv_imul hx hb dX9_feed_92 ?_
                refine lv_isub hx hb dX9_feed_93 ?_
                refine lv_ishr hx hb dX9_feed_94 ?_
                refine lv_i2b hx hb dX9_feed_95 rfl ?_
                have b_317 : vp_in lz 3000 := by
                  have k_318 : (20 : Int32).toInt = 20 := by decide
                  have q_319 := i_nle c_1
                  have k_320 : (4 : Int32).toInt = 4 := by decide
                  have q_321 := i_lt c_2
                  have k_322 : (8 : Int32).toInt = 8 := by decide
                  have q_323 := i_nlt c_3
                  have k_324 : (12 : Int32).toInt = 12 := by decide
                  have q_325 := i_lt c_315
                  have k_326 : (16 : Int32).toInt = 16 := by decide
                  have q_327 := i_lt c_316
                  refine vin ?_ ?_
                  all_goals (try generalize Int32.toInt (12 : Int32) = z0 at *; try generalize Int32.toInt (16 : Int32) = z1 at *; try generalize Int32.toInt (20 : Int32) = z2 at *; try generalize Int32.toInt lz = z3 at *; try generalize Int32.toInt tl = z4 at *; try generalize Int32.toInt (4 : Int32) = z5 at *; try generalize Int32.toInt (8 : Int32) = z6 at *; try generalize Int32.toInt k = z7 at *; omega)
                refine va_bast hx hb hG.1 hP hD hS 1 0 rfl rfl b_317 dX9_feed_96 (fun H locs hP hD hS => ?_)
                have hP : va_P (dC, dI) vwCl [(h0, .inr (9, [.int 0, .ref a0, .ref a1, .ref a2, .int dc, .ref a3, .int lz, .ref a4, .int xl, .int fo, .int fa, .ref a5, .int mn, .ref a6, .int ft, .ref a7, .int wl])), (a3, .inl (cB, 3000, .inl (upd tz lz.toNatClampNeg (vp_nar .byte (((wc >>> ((24 - (8 * (k &&& 3))) &&& 31)) : Int32).toInt8.toInt32)))))] H := hP
                have hD : va_D A [(h0, .inr (9, [.int 0, .ref a0, .ref a1, .ref a2, .int dc, .ref a3, .int lz, .ref a4, .int xl, .int fo, .int fa, .ref a5, .int mn, .ref a6, .int ft, .ref a7, .int wl])), (a3, .inl (cB, 3000, .inl (upd tz lz.toNatClampNeg (vp_nar .byte (((wc >>> ((24 - (8 * (k &&& 3))) &&& 31)) : Int32).toInt8.toInt32)))))] := hD
                refine lv_aload_n hx hb dX9_feed_97 rfl (lv_at hl 1 rfl) ?_
                refine lv_dup hx hb dX9_feed_98 rfl ?_
                refine va_get (D := (dC, dI)) (ci := 9) (v := .int lz) (C := RX9) (T := TX9) (N := 17) hx hb hts inc_X9_feed_9 hown hG.1 hP 0 rfl rfl 6 (by decide) (hts (.fieldLink RX9 30 "MappingDeskModel" "tapeLen" "I") (by decide +kernel)) (fun _ h9 => h9) rfl dX9_feed_99 ?_
                refine lv_iconst (v := 1) hx hb dX9_feed_102 (by decide) ?_
                refine lv_iadd hx hb dX9_feed_103 ?_
                refine va_put (D := (dC, dI)) (ci := 9) (v := .int (lz + 1)) (ty := .int) (C := RX9) (T := TX9) (N := 17) hx hb hts inc_X9_feed_9 tyX9 tyX9_ok nmX9 hown hG.1 hP hD hS 0 rfl rfl 6 (by decide) (hts (.fieldLink RX9 30 "MappingDeskModel" "tapeLen" "I") (by decide +kernel)) (fun _ h9 => h9) rfl (by decide +kernel) rfl rfl (Nat.le_of_ble_eq_true rfl) dX9_feed_104 (fun H locs hP hD hS => ?_)
                have hP : va_P (dC, dI) vwCl [(h0, .inr (9, [.int 0, .ref a0, .ref a1, .ref a2, .int dc, .ref a3, .int (lz + 1), .ref a4, .int xl, .int fo, .int fa, .ref a5, .int mn, .ref a6, .int ft, .ref a7, .int wl])), (a3, .inl (cB, 3000, .inl (upd tz lz.toNatClampNeg (vp_nar .byte (((wc >>> ((24 - (8 * (k &&& 3))) &&& 31)) : Int32).toInt8.toInt32)))))] H := hP
                have hD : va_D A [(h0, .inr (9, [.int 0, .ref a0, .ref a1, .ref a2, .int dc, .ref a3, .int (lz + 1), .ref a4, .int xl, .int fo, .int fa, .ref a5, .int mn, .ref a6, .int ft, .ref a7, .int wl])), (a3, .inl (cB, 3000, .inl (upd tz lz.toNatClampNeg (vp_nar .byte (((wc >>> ((24 - (8 * (k &&& 3))) &&& 31)) : Int32).toInt8.toInt32)))))] := hD
                refine lv_iinc (v := (k + 1)) (lv' := [(6, .int (k + 1)), (7, .int wc), (0, .ref h0), (1, .int wa), (2, .int wb), (3, .int wc), (4, .int wd), (5, .int we)]) hx hb dX9_feed_107 hl (k := 7) rfl rfl (by decide) rfl (fun ls hl => ?_)
                refine lv_goto (tgt := 23) hx hb dX9_feed_110 (by decide) ?_
                have v_340 : 0 ≤ ((k + 1)).toInt := by
                  have k_341 : (20 : Int32).toInt = 20 := by decide
                  have q_342 := i_nle c_1
                  have k_343 : (4 : Int32).toInt = 4 := by decide
                  have q_344 := i_lt c_2
                  have k_345 : (8 : Int32).toInt = 8 := by decide
                  have q_346 := i_nlt c_3
                  have k_347 : (12 : Int32).toInt = 12 := by decide
                  have q_348 := i_lt c_315
                  have k_349 : (16 : Int32).toInt = 16 := by decide
                  have q_350 := i_lt c_316
                  have k_351 : (1 : Int32).toInt = 1 := by decide
                  have t_352 := ti_add (a := k) (b := 1) (by omega) (by omega)
                  try generalize Int32.toInt (k + 1) = z0 at *
                  try generalize Int32.toInt (12 : Int32) = z1 at *
                  try generalize Int32.toInt (16 : Int32) = z2 at *
                  try generalize Int32.toInt (20 : Int32) = z3 at *
                  try generalize Int32.toInt lz = z4 at *
                  try generalize Int32.toInt tl = z5 at *
                  try generalize Int32.toInt (1 : Int32) = z6 at *
                  try generalize Int32.toInt (4 : Int32) = z7 at *
                  try generalize Int32.toInt (8 : Int32) = z8 at *
                  try generalize Int32.toInt k = z9 at *
                  omega
                have v_353 : ((k + 1)).toInt ≤ 20 := by
                  have k_354 : (20 : Int32).toInt = 20 := by decide
                  have q_355 := i_nle c_1
                  have k_356 : (4 : Int32).toInt = 4 := by decide
                  have q_357 := i_lt c_2
                  have k_358 : (8 : Int32).toInt = 8 := by decide
                  have q_359 := i_nlt c_3
                  have k_360 : (12 : Int32).toInt = 12 := by decide
                  have q_361 := i_lt c_315
                  have k_362 : (16 : Int32).toInt = 16 := by decide
                  have q_363 := i_lt c_316
                  have k_364 : (1 : Int32).toInt = 1 := by decide
                  have t_365 := ti_add (a := k) (b := 1) (by omega) (by omega)
                  try generalize Int32.toInt (k + 1) = z0 at *
                  try generalize Int32.toInt (12 : Int32) = z1 at *
                  try generalize Int32.toInt (16 : Int32) = z2 at *
                  try generalize Int32.toInt (20 : Int32) = z3 at *
                  try generalize Int32.toInt lz = z4 at *
                  try generalize Int32.toInt tl = z5 at *
                  try generalize Int32.toInt (1 : Int32) = z6 at *
                  try generalize Int32.toInt (4 : Int32) = z7 at *
                  try generalize Int32.toInt (8 : Int32) = z8 at *
                  try generalize Int32.toInt k = z9 at *
                  omega
                have v_366 : ((lz + 1)).toInt = tl.toInt + ((k + 1)).toInt := by
                  have k_367 : (20 : Int32).toInt = 20 := by decide
                  have q_368 := i_nle c_1
                  have k_369 : (4 : Int32).toInt = 4 := by decide
                  have q_370 := i_lt c_2
                  have k_371 : (8 : Int32).toInt = 8 := by decide
                  have q_372 := i_nlt c_3
                  have k_373 : (12 : Int32).toInt = 12 := by decide
                  have q_374 := i_lt c_315
                  have k_375 : (16 : Int32).toInt = 16 := by decide
                  have q_376 := i_lt c_316
                  have k_377 : (1 : Int32).toInt = 1 := by decide
                  have t_378 := ti_add (a := k) (b := 1) (by omega) (by omega)
                  have t_379 := ti_add (a := lz) (b := 1) (by omega) (by omega)
                  try generalize Int32.toInt (lz + 1) = z0 at *
                  try generalize Int32.toInt (k + 1) = z1 at *
                  try generalize Int32.toInt (12 : Int32) = z2 at *
                  try generalize Int32.toInt (16 : Int32) = z3 at *
                  try generalize Int32.toInt (20 : Int32) = z4 at *
                  try generalize Int32.toInt lz = z5 at *
                  try generalize Int32.toInt tl = z6 at *
                  try generalize Int32.toInt (1 : Int32) = z7 at *
                  try generalize Int32.toInt (4 : Int32) = z8 at *
                  try generalize Int32.toInt (8 : Int32) = z9 at *
                  try generalize Int32.toInt k = z10 at *
                  omega
                have v_380 : tl.toInt ≤ 2980 := by
                  first | exact hroom | assumption
                have v_381 : 20 - ((k + 1)).toInt < ((n : Nat) : Int) := by
                  have k_382 : (20 : Int32).toInt = 20 := by decide
                  have q_383 := i_nle c_1
                  have k_384 : (4 : Int32).toInt = 4 := by decide
                  have q_385 := i_lt c_2
                  have k_386 : (8 : Int32).toInt = 8 := by decide
                  have q_387 := i_nlt c_3
                  have k_388 : (12 : Int32).toInt = 12 := by decide
                  have q_389 := i_lt c_315
                  have k_390 : (16 : Int32).toInt = 16 := by decide
                  have q_391 := i_lt c_316
                  have k_392 : (1 : Int32).toInt = 1 := by decide
                  have t_393 := ti_add (a := k) (b := 1) (by omega) (by omega)
                  try generalize Int32.toInt (k + 1) = z0 at *
                  try generalize Int32.toInt (12 : Int32) = z1 at *
                  try generalize Int32.toInt (16 : Int32) = z2 at *
                  try generalize Int32.toInt (20 : Int32) = z3 at *
                  try generalize Int32.toInt lz = z4 at *
                  try generalize Int32.toInt tl = z5 at *
                  try generalize Int32.toInt (1 : Int32) = z6 at *
                  try generalize Int32.toInt (4 : Int32) = z7 at *
                  try generalize Int32.toInt (8 : Int32) = z8 at *
                  try generalize Int32.toInt k = z9 at *
                  omega
                exact ih ((k + 1)) ((upd tz lz.toNatClampNeg (vp_nar .byte (((wc >>> ((24 - (8 * (k &&& 3))) &&& 31)) : Int32).toInt8.toInt32)))) ((lz + 1)) _ _ ls hR v_340 v_353 v_366 v_380 v_381 hP hD hS (lv_sub hl [2, 3, 4, 5, 6, 7, 0] rfl)
              · rw [if_neg c_316] at hR
                refine lv_iload hx hb dX9_feed_70 (lv_at hl 6 rfl) ?_
                refine lv_istore (lv' := [(7, .int we), (0, .ref h0), (1, .int wa), (2, .int wb), (3, .int wc), (4, .int wd), (5, .int we), (6, .int k)]) hx hb dX9_feed_72 hl (by decide) rfl (fun ls hl => ?_)
                refine lv_aload_n hx hb dX9_feed_74 rfl (lv_at hl 1 rfl) ?_
                refine va_get (D := (dC, dI)) (ci := 9) (v := .ref a3) (C := RX9) (T := TX9) (N := 17) hx hb hts inc_X9_feed_9 hown hG.1 hP 0 rfl rfl 5 (by decide) (hts (.fieldLink RX9 26 "MappingDeskModel" "tape" "[B") (by decide +kernel)) (fun _ h9 => h9) rfl dX9_feed_75 ?_
                refine lv_aload_n hx hb dX9_feed_78 rfl (lv_at hl 1 rfl) ?_
                refine va_get (D := (dC, dI)) (ci := 9) (v := .int lz) (C := RX9) (T := TX9) (N := 17) hx hb hts inc_X9_feed_9 hown hG.1 hP 0 rfl rfl 6 (by decide) (hts (.fieldLink RX9 30 "MappingDeskModel" "tapeLen" "I") (by decide +kernel)) (fun _ h9 => h9) rfl dX9_feed_79 ?_
                refine lv_iload hx hb dX9_feed_82 (lv_at hl 0 rfl) ?_
                refine lv_bipush (v := 24) hx hb dX9_feed_84 (by decide) ?_
                refine lv_bipush (v := 8) hx hb dX9_feed_86 (by decide) ?_
                refine lv_iload hx hb dX9_feed_88 (lv_at hl 7 rfl) ?_
                refine lv_iconst (v := 3) hx hb dX9_feed_90 (by decide) ?_
                refine lv_iand hx hb dX9_feed_91 ?_
                refine lv_imul hx hb dX9_feed_92 ?_
                refine lv_isub hx hb dX9_feed_93 ?_
                refine lv_ishr hx hb dX9_feed_94 ?_
                refine lv_i2b hx hb dX9_feed_95 rfl ?_
                have b_394 : vp_in lz 3000 := by
                  have k_395 : (20 : Int32).toInt = 20 := by decide
                  have q_396 := i_nle c_1
                  have k_397 : (4 : Int32).toInt = 4 := by decide
                  have q_398 := i_lt c_2
                  have k_399 : (8 : Int32).toInt = 8 := by decide
                  have q_400 := i_nlt c_3
                  have k_401 : (12 : Int32).toInt = 12 := by decide
                  have q_402 := i_lt c_315
                  have k_403 : (16 : Int32).toInt = 16 := by decide
                  have q_404 := i_nlt c_316
                  refine vin ?_ ?_
                  all_goals (try generalize Int32.toInt (12 : Int32) = z0 at *; try generalize Int32.toInt (16 : Int32) = z1 at *; try generalize Int32.toInt (20 : Int32) = z2 at *; try generalize Int32.toInt lz = z3 at *; try generalize Int32.toInt tl = z4 at *; try generalize Int32.toInt (4 : Int32) = z5 at *; try generalize Int32.toInt (8 : Int32) = z6 at *; try generalize Int32.toInt k = z7 at *; omega)
                refine va_bast hx hb hG.1 hP hD hS 1 0 rfl rfl b_394 dX9_feed_96 (fun H locs hP hD hS => ?_)
                have hP : va_P (dC, dI) vwCl [(h0, .inr (9, [.int 0, .ref a0, .ref a1, .ref a2, .int dc, .ref a3, .int lz, .ref a4, .int xl, .int fo, .int fa, .ref a5, .int mn, .ref a6, .int ft, .ref a7, .int wl])), (a3, .inl (cB, 3000, .inl (upd tz lz.toNatClampNeg (vp_nar .byte (((we >>> ((24 - (8 * (k &&& 3))) &&& 31)) : Int32).toInt8.toInt32)))))] H := hP
                have hD : va_D A [(h0, .inr (9, [.int 0, .ref a0, .ref a1, .ref a2, .int dc, .ref a3, .int lz, .ref a4, .int xl, .int fo, .int fa, .ref a5, .int mn, .ref a6, .int ft, .ref a7, .int wl])), (a3, .inl (cB, 3000, .inl (upd tz lz.toNatClampNeg (vp_nar .byte (((we >>> ((24 - (8 * (k &&& 3))) &&& 31)) : Int32).toInt8.toInt32)))))] := hD
                refine lv_aload_n hx hb dX9_feed_97 rfl (lv_at hl 1 rfl) ?_
                refine lv_dup hx hb dX9_feed_98 rfl ?_
                refine va_get (D := (dC, dI)) (ci := 9) (v := .int lz) (C := RX9) (T := TX9) (N := 17) hx hb hts inc_X9_feed_9 hown hG.1 hP 0 rfl rfl 6 (by decide) (hts (.fieldLink RX9 30 "MappingDeskModel" "tapeLen" "I") (by decide +kernel)) (fun _ h9 => h9) rfl dX9_feed_99 ?_
                refine lv_iconst (v := 1) hx hb dX9_feed_102 (by decide) ?_
                refine lv_iadd hx hb dX9_feed_103 ?_
                refine va_put (D := (dC, dI)) (ci := 9) (v := .int (lz + 1)) (ty := .int) (C := RX9) (T := TX9) (N := 17) hx hb hts inc_X9_feed_9 tyX9 tyX9_ok nmX9 hown hG.1 hP hD hS 0 rfl rfl 6 (by decide) (hts (.fieldLink RX9 30 "MappingDeskModel" "tapeLen" "I") (by decide +kernel)) (fun _ h9 => h9) rfl (by decide +kernel) rfl rfl (Nat.le_of_ble_eq_true rfl) dX9_feed_104 (fun H locs hP hD hS => ?_)
                have hP : va_P (dC, dI) vwCl [(h0, .inr (9, [.int 0, .ref a0, .ref a1, .ref a2, .int dc, .ref a3, .int (lz + 1), .ref a4, .int xl, .int fo, .int fa, .ref a5, .int mn, .ref a6, .int ft, .ref a7, .int wl])), (a3, .inl (cB, 3000, .inl (upd tz lz.toNatClampNeg (vp_nar .byte (((we >>> ((24 - (8 * (k &&& 3))) &&& 31)) : Int32).toInt8.toInt32)))))] H := hP
                have hD : va_D A [(h0, .inr (9, [.int 0, .ref a0, .ref a1, .ref a2, .int dc, .ref a3, .int (lz + 1), .ref a4, .int xl, .int fo, .int fa, .ref a5, .int mn, .ref a6, .int ft, .ref a7, .int wl])), (a3, .inl (cB, 3000, .inl (upd tz lz.toNatClampNeg (vp_nar .byte (((we >>> ((24 - (8 * (k &&& 3))) &&& 31)) : Int32).toInt8.toInt32)))))] := hD
                refine lv_iinc (v := (k + 1)) (lv' := [(6, .int (k + 1)), (7, .int we), (0, .ref h0), (1, .int wa), (2, .int wb), (3, .int wc), (4, .int wd), (5, .int we)]) hx hb dX9_feed_107 hl (k := 7) rfl rfl (by decide) rfl (fun ls hl => ?_)
                refine lv_goto (tgt := 23) hx hb dX9_feed_110 (by decide) ?_
                have v_417 : 0 ≤ ((k + 1)).toInt := by
                  have k_418 : (20 : Int32).toInt = 20 := by decide
                  have q_419 := i_nle c_1
                  have k_420 : (4 : Int32).toInt = 4 := by decide
                  have q_421 := i_lt c_2
                  have k_422 : (8 : Int32).toInt = 8 := by decide
                  have q_423 := i_nlt c_3
                  have k_424 : (12 : Int32).toInt = 12 := by decide
                  have q_425 := i_lt c_315
                  have k_426 : (16 : Int32).toInt = 16 := by decide
                  have q_427 := i_nlt c_316
                  have k_428 : (1 : Int32).toInt = 1 := by decide
                  have t_429 := ti_add (a := k) (b := 1) (by omega) (by omega)
                  try generalize Int32.toInt (k + 1) = z0 at *
                  try generalize Int32.toInt (12 : Int32) = z1 at *
                  try generalize Int32.toInt (16 : Int32) = z2 at *
                  try generalize Int32.toInt (20 : Int32) = z3 at *
                  try generalize Int32.toInt lz = z4 at *
                  try generalize Int32.toInt tl = z5 at *
                  try generalize Int32.toInt (1 : Int32) = z6 at *
                  try generalize Int32.toInt (4 : Int32) = z7 at *
                  try generalize Int32.toInt (8 : Int32) = z8 at *
                  try generalize Int32.toInt k = z9 at *
                  omega
                have v_430 : ((k + 1)).toInt ≤ 20 := by
                  have k_431 : (20 : Int32).toInt = 20 := by decide
                  have q_432 := i_nle c_1
                  have k_433 : (4 : Int32).toInt = 4 := by decide
                  have q_434 := i_lt c_2
                  have k_435 : (8 : Int32).toInt = 8 := by decide
                  have q_436 := i_nlt c_3
                  have k_437 : (12 : Int32).toInt = 12 := by decide
                  have q_438 := i_lt c_315
                  have k_439 : (16 : Int32).toInt = 16 := by decide
                  have q_440 := i_nlt c_316
                  have k_441 : (1 : Int32).toInt = 1 := by decide
                  have t_442 := ti_add (a := k) (b := 1) (by omega) (by omega)
                  try generalize Int32.toInt (k + 1) = z0 at *
                  try generalize Int32.toInt (12 : Int32) = z1 at *
                  try generalize Int32.toInt (16 : Int32) = z2 at *
                  try generalize Int32.toInt (20 : Int32) = z3 at *
                  try generalize Int32.toInt lz = z4 at *
                  try generalize Int32.toInt tl = z5 at *
                  try generalize Int32.toInt (1 : Int32) = z6 at *
                  try generalize Int32.toInt (4 : Int32) = z7 at *
                  try generalize Int32.toInt (8 : Int32) = z8 at *
                  try generalize Int32.toInt k = z9 at *
                  omega
                have v_443 : ((lz + 1)).toInt = tl.toInt + ((k + 1)).toInt := by
                  have k_444 : (20 : Int32).toInt = 20 := by decide
                  have q_445 := i_nle c_1
                  have k_446 : (4 : Int32).toInt = 4 := by decide
                  have q_447 := i_lt c_2
                  have k_448 : (8 : Int32).toInt = 8 := by decide
                  have q_449 := i_nlt c_3
                  have k_450 : (12 : Int32).toInt = 12 := by decide
                  have q_451 := i_lt c_315
                  have k_452 : (16 : Int32).toInt = 16 := by decide
                  have q_453 := i_nlt c_316
                  have k_454 : (1 : Int32).toInt = 1 := by decide
                  have t_455 := ti_add (a := k) (b := 1) (by omega) (by omega)
                  have t_456 := ti_add (a := lz) (b := 1) (by omega) (by omega)
                  try generalize Int32.toInt (lz + 1) = z0 at *
                  try generalize Int32.toInt (k + 1) = z1 at *
                  try generalize Int32.toInt (12 : Int32) = z2 at *
                  try generalize Int32.toInt (16 : Int32) = z3 at *
                  try generalize Int32.toInt (20 : Int32) = z4 at *
                  try generalize Int32.toInt lz = z5 at *
                  try generalize Int32.toInt tl = z6 at *
                  try generalize Int32.toInt (1 : Int32) = z7 at *
                  try generalize Int32.toInt (4 : Int32) = z8 at *
                  try generalize Int32.toInt (8 : Int32) = z9 at *
                  try generalize Int32.toInt k = z10 at *
                  omega
                have v_457 : tl.toInt ≤ 2980 := by
                  first | exact hroom | assumption
                have v_458 : 20 - ((k + 1)).toInt < ((n : Nat) : Int) := by
                  have k_459 : (20 : Int32).toInt = 20 := by decide
                  have q_460 := i_nle c_1
                  have k_461 : (4 : Int32).toInt = 4 := by decide
                  have q_462 := i_lt c_2
                  have k_463 : (8 : Int32).toInt = 8 := by decide
                  have q_464 := i_nlt c_3
                  have k_465 : (12 : Int32).toInt = 12 := by decide
                  have q_466 := i_lt c_315
                  have k_467 : (16 : Int32).toInt = 16 := by decide
                  have q_468 := i_nlt c_316
                  have k_469 : (1 : Int32).toInt = 1 := by decide
                  have t_470 := ti_add (a := k) (b := 1) (by omega) (by omega)
                  try generalize Int32.toInt (k + 1) = z0 at *
                  try generalize Int32.toInt (12 : Int32) = z1 at *
                  try generalize Int32.toInt (16 : Int32) = z2 at *
                  try generalize Int32.toInt (20 : Int32) = z3 at *
                  try generalize Int32.toInt lz = z4 at *
                  try generalize Int32.toInt tl = z5 at *
                  try generalize Int32.toInt (1 : Int32) = z6 at *
                  try generalize Int32.toInt (4 : Int32) = z7 at *
                  try generalize Int32.toInt (8 : Int32) = z8 at *
                  try generalize Int32.toInt k = z9 at *
                  omega
                exact ih ((k + 1)) ((upd tz lz.toNatClampNeg (vp_nar .byte (((we >>> ((24 - (8 * (k &&& 3))) &&& 31)) : Int32).toInt8.toInt32)))) ((lz + 1)) _ _ ls hR v_417 v_430 v_443 v_457 v_458 hP hD hS (lv_sub hl [2, 3, 4, 5, 6, 7, 0] rfl)
            · rw [if_neg c_315] at hR
              refine lv_iload hx hb dX9_feed_59 (lv_at hl 5 rfl) ?_
              refine lv_istore (lv' := [(7, .int wd), (0, .ref h0), (1, .int wa), (2, .int wb), (3, .int wc), (4, .int wd), (5, .int we), (6, .int k)]) hx hb dX9_feed_61 hl (by decide) rfl (fun ls hl => ?_)
              refine lv_iload hx hb dX9_feed_63 (lv_at hl 7 rfl) ?_
              refine lv_bipush (v := 16) hx hb dX9_feed_65 (by decide) ?_
              refine lv_icmp_lt (tgt := 74) hx hb dX9_feed_67 (by decide) (fun c_471 => ?_) (fun c_471 => ?_)
              · rw [if_pos c_471] at hR
                refine lv_aload_n hx hb dX9_feed_74 rfl (lv_at hl 1 rfl) ?_
                refine va_get (D := (dC, dI)) (ci := 9) (v := .ref a3) (C := RX9) (T := TX9) (N := 17) hx hb hts inc_X9_feed_9 hown hG.1 hP 0 rfl rfl 5 (by decide) (hts (.fieldLink RX9 26 "MappingDeskModel" "tape" "[B") (by decide +kernel)) (fun _ h9 => h9) rfl dX9_feed_75 ?_
                refine lv_aload_n hx hb dX9_feed_78 rfl (lv_at hl 1 rfl) ?_
                refine va_get (D := (dC, dI)) (ci := 9) (v := .int lz) (C := RX9) (T := TX9) (N := 17) hx hb hts inc_X9_feed_9 hown hG.1 hP 0 rfl rfl 6 (by decide) (hts (.fieldLink RX9 30 "MappingDeskModel" "tapeLen" "I") (by decide +kernel)) (fun _ h9 => h9) rfl dX9_feed_79 ?_
                refine lv_iload hx hb dX9_feed_82 (lv_at hl 0 rfl) ?_
                refine lv_bipush (v := 24) hx hb dX9_feed_84 (by decide) ?_
                refine lv_bipush (v := 8) hx hb dX9_feed_86 (by decide) ?_
                refine lv_iload hx hb dX9_feed_88 (lv_at hl 7 rfl) ?_
                refine lv_iconst (v := 3) hx hb dX9_feed_90 (by decide) ?_
                refine lv_iand hx hb dX9_feed_91 ?_
                refine lv_imul hx hb dX9_feed_92 ?_
                refine lv_isub hx hb dX9_feed_93 ?_
                refine lv_ishr hx hb dX9_feed_94 ?_
                refine lv_i2b hx hb dX9_feed_95 rfl ?_
                have b_472 : vp_in lz 3000 := by
                  have k_473 : (20 : Int32).toInt = 20 := by decide
                  have q_474 := i_nle c_1
                  have k_475 : (4 : Int32).toInt = 4 := by decide
                  have q_476 := i_lt c_2
                  have k_477 : (8 : Int32).toInt = 8 := by decide
                  have q_478 := i_nlt c_3
                  have k_479 : (12 : Int32).toInt = 12 := by decide
                  have q_480 := i_nlt c_315
                  have k_481 : (16 : Int32).toInt = 16 := by decide
                  have q_482 := i_lt c_471
                  refine vin ?_ ?_
                  all_goals (try generalize Int32.toInt (12 : Int32) = z0 at *; try generalize Int32.toInt (16 : Int32) = z1 at *; try generalize Int32.toInt (20 : Int32) = z2 at *; try generalize Int32.toInt lz = z3 at *; try generalize Int32.toInt tl = z4 at *; try generalize Int32.toInt (4 : Int32) = z5 at *; try generalize Int32.toInt (8 : Int32) = z6 at *; try generalize Int32.toInt k = z7 at *; omega)
                refine va_bast hx hb hG.1 hP hD hS 1 0 rfl rfl b_472 dX9_feed_96 (fun H locs hP hD hS => ?_)
                have hP : va_P (dC, dI) vwCl [(h0, .inr (9, [.int 0, .ref a0, .ref a1, .ref a2, .int dc, .ref a3, .int lz, .ref a4, .int xl, .int fo, .int fa, .ref a5, .int mn, .ref a6, .int ft, .ref a7, .int wl])), (a3, .inl (cB, 3000, .inl (upd tz lz.toNatClampNeg (vp_nar .byte (((wd >>> ((24 - (8 * (k &&& 3))) &&& 31)) : Int32).toInt8.toInt32)))))] H := hP
                have hD : va_D A [(h0, .inr (9, [.int 0, .ref a0, .ref a1, .ref a2, .int dc, .ref a3, .int lz, .ref a4, .int xl, .int fo, .int fa, .ref a5, .int mn, .ref a6, .int ft, .ref a7, .int wl])), (a3, .inl (cB, 3000, .inl (upd tz lz.toNatClampNeg (vp_nar .byte (((wd >>> ((24 - (8 * (k &&& 3))) &&& 31)) : Int32).toInt8.toInt32)))))] := hD
                refine lv_aload_n hx hb dX9_feed_97 rfl (lv_at hl 1 rfl) ?_
                refine lv_dup hx hb dX9_feed_98 rfl ?_
                refine va_get (D := (dC, dI)) (ci := 9) (v := .int lz) (C := RX9) (T := TX9) (N := 17) hx hb hts inc_X9_feed_9 hown hG.1 hP 0 rfl rfl 6 (by decide) (hts (.fieldLink RX9 30 "MappingDeskModel" "tapeLen" "I") (by decide +kernel)) (fun _ h9 => h9) rfl dX9_feed_99 ?_
                refine lv_iconst (v := 1) hx hb dX9_feed_102 (by decide) ?_
                refine lv_iadd hx hb dX9_feed_103 ?_
                refine va_put (D := (dC, dI)) (ci := 9) (v := .int (lz + 1)) (ty := .int) (C := RX9) (T := TX9) (N := 17) hx hb hts inc_X9_feed_9 tyX9 tyX9_ok nmX9 hown hG.1 hP hD hS 0 rfl rfl 6 (by decide) (hts (.fieldLink RX9 30 "MappingDeskModel" "tapeLen" "I") (by decide +kernel)) (fun _ h9 => h9) rfl (by decide +kernel) rfl rfl (Nat.le_of_ble_eq_true rfl) dX9_feed_104 (fun H locs hP hD hS => ?_)
                have hP : va_P (dC, dI) vwCl [(h0, .inr (9, [.int 0, .ref a0, .ref a1, .ref a2, .int dc, .ref a3, .int (lz + 1), .ref a4, .int xl, .int fo, .int fa, .ref a5, .int mn, .ref a6, .int ft, .ref a7, .int wl])), (a3, .inl (cB, 3000, .inl (upd tz lz.toNatClampNeg (vp_nar .byte (((wd >>> ((24 - (8 * (k &&& 3))) &&& 31)) : Int32).toInt8.toInt32)))))] H := hP
                have hD : va_D A [(h0, .inr (9, [.int 0, .ref a0, .ref a1, .ref a2, .int dc, .ref a3, .int (lz + 1), .ref a4, .int xl, .int fo, .int fa, .ref a5, .int mn, .ref a6, .int ft, .ref a7, .int wl])), (a3, .inl (cB, 3000, .inl (upd tz lz.toNatClampNeg (vp_nar .byte (((wd >>> ((24 - (8 * (k &&& 3))) &&& 31)) : Int32).toInt8.toInt32)))))] := hD
                refine lv_iinc (v := (k + 1)) (lv' := [(6, .int (k + 1)), (7, .int wd), (0, .ref h0), (1, .int wa), (2, .int wb), (3, .int wc), (4, .int wd), (5, .int we)]) hx hb dX9_feed_107 hl (k := 7) rfl rfl (by decide) rfl (fun ls hl => ?_)
                refine lv_goto (tgt := 23) hx hb dX9_feed_110 (by decide) ?_
                have v_495 : 0 ≤ ((k + 1)).toInt := by
                  have k_496 : (20 : Int32).toInt = 20 := by decide
                  have q_497 := i_nle c_1
                  have k_498 : (4 : Int32).toInt = 4 := by decide
                  have q_499 := i_lt c_2
                  have k_500 : (8 : Int32).toInt = 8 := by decide
                  have q_501 := i_nlt c_3
                  have k_502 : (12 : Int32).toInt = 12 := by decide
                  have q_503 := i_nlt c_315
                  have k_504 : (16 : Int32).toInt = 16 := by decide
                  have q_505 := i_lt c_471
                  have k_506 : (1 : Int32).toInt = 1 := by decide
                  have t_507 := ti_add (a := k) (b := 1) (by omega) (by omega)
                  try generalize Int32.toInt (k + 1) = z0 at *
                  try generalize Int32.toInt (12 : Int32) = z1 at *
                  try generalize Int32.toInt (16 : Int32) = z2 at *
                  try generalize Int32.toInt (20 : Int32) = z3 at *
                  try generalize Int32.toInt lz = z4 at *
                  try generalize Int32.toInt tl = z5 at *
                  try generalize Int32.toInt (1 : Int32) = z6 at *
                  try generalize Int32.toInt (4 : Int32) = z7 at *
                  try generalize Int32.toInt (8 : Int32) = z8 at *
                  try generalize Int32.toInt k = z9 at *
                  omega
                have v_508 : ((k + 1)).toInt ≤ 20 := by
                  have k_509 : (20 : Int32).toInt = 20 := by decide
                  have q_510 := i_nle c_1
                  have k_511 : (4 : Int32).toInt = 4 := by decide
                  have q_512 := i_lt c_2
                  have k_513 : (8 : Int32).toInt = 8 := by decide
                  have q_514 := i_nlt c_3
                  have k_515 : (12 : Int32).toInt = 12 := by decide
                  have q_516 := i_nlt c_315
                  have k_517 : (16 : Int32).toInt = 16 := by decide
                  have q_518 := i_lt c_471
                  have k_519 : (1 : Int32).toInt = 1 := by decide
                  have t_520 := ti_add (a := k) (b := 1) (by omega) (by omega)
                  try generalize Int32.toInt (k + 1) = z0 at *
                  try generalize Int32.toInt (12 : Int32) = z1 at *
                  try generalize Int32.toInt (16 : Int32) = z2 at *
                  try generalize Int32.toInt (20 : Int32) = z3 at *
                  try generalize Int32.toInt lz = z4 at *
                  try generalize Int32.toInt tl = z5 at *
                  try generalize Int32.toInt (1 : Int32) = z6 at *
                  try generalize Int32.toInt (4 : Int32) = z7 at *
                  try generalize Int32.toInt (8 : Int32) = z8 at *
                  try generalize Int32.toInt k = z9 at *
                  omega
                have v_521 : ((lz + 1)).toInt = tl.toInt + ((k + 1)).toInt := by
                  have k_522 : (20 : Int32).toInt = 20 := by decide
                  have q_523 := i_nle c_1
                  have k_524 : (4 : Int32).toInt = 4 := by decide
                  have q_525 := i_lt c_2
                  have k_526 : (8 : Int32).toInt = 8 := by decide
                  have q_527 := i_nlt c_3
                  have k_528 : (12 : Int32).toInt = 12 := by decide
                  have q_529 := i_nlt c_315
                  have k_530 : (16 : Int32).toInt = 16 := by decide
                  have q_531 := i_lt c_471
                  have k_532 : (1 : Int32).toInt = 1 := by decide
                  have t_533 := ti_add (a := k) (b := 1) (by omega) (by omega)
                  have t_534 := ti_add (a := lz) (b := 1) (by omega) (by omega)
                  try generalize Int32.toInt (lz + 1) = z0 at *
                  try generalize Int32.toInt (k + 1) = z1 at *
                  try generalize Int32.toInt (12 : Int32) = z2 at *
                  try generalize Int32.toInt (16 : Int32) = z3 at *
                  try generalize Int32.toInt (20 : Int32) = z4 at *
                  try generalize Int32.toInt lz = z5 at *
                  try generalize Int32.toInt tl = z6 at *
                  try generalize Int32.toInt (1 : Int32) = z7 at *
                  try generalize Int32.toInt (4 : Int32) = z8 at *
                  try generalize Int32.toInt (8 : Int32) = z9 at *
                  try generalize Int32.toInt k = z10 at *
                  omega
                have v_535 : tl.toInt ≤ 2980 := by
                  first | exact hroom | assumption
                have v_536 : 20 - ((k + 1)).toInt < ((n : Nat) : Int) := by
                  have k_537 : (20 : Int32).toInt = 20 := by decide
                  have q_538 := i_nle c_1
                  have k_539 : (4 : Int32).toInt = 4 := by decide
                  have q_540 := i_lt c_2
                  have k_541 : (8 : Int32).toInt = 8 := by decide
                  have q_542 := i_nlt c_3
                  have k_543 : (12 : Int32).toInt = 12 := by decide
                  have q_544 := i_nlt c_315
                  have k_545 : (16 : Int32).toInt = 16 := by decide
                  have q_546 := i_lt c_471
                  have k_547 : (1 : Int32).toInt = 1 := by decide
                  have t_548 := ti_add (a := k) (b := 1) (by omega) (by omega)
                  try generalize Int32.toInt (k + 1) = z0 at *
                  try generalize Int32.toInt (12 : Int32) = z1 at *
                  try generalize Int32.toInt (16 : Int32) = z2 at *
                  try generalize Int32.toInt (20 : Int32) = z3 at *
                  try generalize Int32.toInt lz = z4 at *
                  try generalize Int32.toInt tl = z5 at *
                  try generalize Int32.toInt (1 : Int32) = z6 at *
                  try generalize Int32.toInt (4 : Int32) = z7 at *
                  try generalize Int32.toInt (8 : Int32) = z8 at *
                  try generalize Int32.toInt k = z9 at *
                  omega
                exact ih ((k + 1)) ((upd tz lz.toNatClampNeg (vp_nar .byte (((wd >>> ((24 - (8 * (k &&& 3))) &&& 31)) : Int32).toInt8.toInt32)))) ((lz + 1)) _ _ ls hR v_495 v_508 v_521 v_535 v_536 hP hD hS (lv_sub hl [2, 3, 4, 5, 6, 7, 0] rfl)
              · rw [if_neg c_471] at hR
                refine lv_iload hx hb dX9_feed_70 (lv_at hl 6 rfl) ?_
                refine lv_istore (lv' := [(7, .int we), (0, .ref h0), (1, .int wa), (2, .int wb), (3, .int wc), (4, .int wd), (5, .int we), (6, .int k)]) hx hb dX9_feed_72 hl (by decide) rfl (fun ls hl => ?_)
                refine lv_aload_n hx hb dX9_feed_74 rfl (lv_at hl 1 rfl) ?_
                refine va_get (D := (dC, dI)) (ci := 9) (v := .ref a3) (C := RX9) (T := TX9) (N := 17) hx hb hts inc_X9_feed_9 hown hG.1 hP 0 rfl rfl 5 (by decide) (hts (.fieldLink RX9 26 "MappingDeskModel" "tape" "[B") (by decide +kernel)) (fun _ h9 => h9) rfl dX9_feed_75 ?_
                refine lv_aload_n hx hb dX9_feed_78 rfl (lv_at hl 1 rfl) ?_
                refine va_get (D := (dC, dI)) (ci := 9) (v := .int lz) (C := RX9) (T := TX9) (N := 17) hx hb hts inc_X9_feed_9 hown hG.1 hP 0 rfl rfl 6 (by decide) (hts (.fieldLink RX9 30 "MappingDeskModel" "tapeLen" "I") (by decide +kernel)) (fun _ h9 => h9) rfl dX9_feed_79 ?_
                refine lv_iload hx hb dX9_feed_82 (lv_at hl 0 rfl) ?_
                refine lv_bipush (v := 24) hx hb dX9_feed_84 (by decide) ?_
                refine lv_bipush (v := 8) hx hb dX9_feed_86 (by decide) ?_
                refine lv_iload hx hb dX9_feed_88 (lv_at hl 7 rfl) ?_
                refine lv_iconst (v := 3) hx hb dX9_feed_90 (by decide) ?_
                refine lv_iand hx hb dX9_feed_91 ?_
                refine lv_imul hx hb dX9_feed_92 ?_
                refine lv_isub hx hb dX9_feed_93 ?_
                refine lv_ishr hx hb dX9_feed_94 ?_
                refine lv_i2b hx hb dX9_feed_95 rfl ?_
                have b_549 : vp_in lz 3000 := by
                  have k_550 : (20 : Int32).toInt = 20 := by decide
                  have q_551 := i_nle c_1
                  have k_552 : (4 : Int32).toInt = 4 := by decide
                  have q_553 := i_lt c_2
                  have k_554 : (8 : Int32).toInt = 8 := by decide
                  have q_555 := i_nlt c_3
                  have k_556 : (12 : Int32).toInt = 12 := by decide
                  have q_557 := i_nlt c_315
                  have k_558 : (16 : Int32).toInt = 16 := by decide
                  have q_559 := i_nlt c_471
                  refine vin ?_ ?_
                  all_goals (try generalize Int32.toInt (12 : Int32) = z0 at *; try generalize Int32.toInt (16 : Int32) = z1 at *; try generalize Int32.toInt (20 : Int32) = z2 at *; try generalize Int32.toInt lz = z3 at *; try generalize Int32.toInt tl = z4 at *; try generalize Int32.toInt (4 : Int32) = z5 at *; try generalize Int32.toInt (8 : Int32) = z6 at *; try generalize Int32.toInt k = z7 at *; omega)
                refine va_bast hx hb hG.1 hP hD hS 1 0 rfl rfl b_549 dX9_feed_96 (fun H locs hP hD hS => ?_)
                have hP : va_P (dC, dI) vwCl [(h0, .inr (9, [.int 0, .ref a0, .ref a1, .ref a2, .int dc, .ref a3, .int lz, .ref a4, .int xl, .int fo, .int fa, .ref a5, .int mn, .ref a6, .int ft, .ref a7, .int wl])), (a3, .inl (cB, 3000, .inl (upd tz lz.toNatClampNeg (vp_nar .byte (((we >>> ((24 - (8 * (k &&& 3))) &&& 31)) : Int32).toInt8.toInt32)))))] H := hP
                have hD : va_D A [(h0, .inr (9, [.int 0, .ref a0, .ref a1, .ref a2, .int dc, .ref a3, .int lz, .ref a4, .int xl, .int fo, .int fa, .ref a5, .int mn, .ref a6, .int ft, .ref a7, .int wl])), (a3, .inl (cB, 3000, .inl (upd tz lz.toNatClampNeg (vp_nar .byte (((we >>> ((24 - (8 * (k &&& 3))) &&& 31)) : Int32).toInt8.toInt32)))))] := hD
                refine lv_aload_n hx hb dX9_feed_97 rfl (lv_at hl 1 rfl) ?_
                refine lv_dup hx hb dX9_feed_98 rfl ?_
                refine va_get (D := (dC, dI)) (ci := 9) (v := .int lz) (C := RX9) (T := TX9) (N := 17) hx hb hts inc_X9_feed_9 hown hG.1 hP 0 rfl rfl 6 (by decide) (hts (.fieldLink RX9 30 "MappingDeskModel" "tapeLen" "I") (by decide +kernel)) (fun _ h9 => h9) rfl dX9_feed_99 ?_
                refine lv_iconst (v := 1) hx hb dX9_feed_102 (by decide) ?_
                refine lv_iadd hx hb dX9_feed_103 ?_
                refine va_put (D := (dC, dI)) (ci := 9) (v := .int (lz + 1)) (ty := .int) (C := RX9) (T := TX9) (N := 17) hx hb hts inc_X9_feed_9 tyX9 tyX9_ok nmX9 hown hG.1 hP hD hS 0 rfl rfl 6 (by decide) (hts (.fieldLink RX9 30 "MappingDeskModel" "tapeLen" "I") (by decide +kernel)) (fun _ h9 => h9) rfl (by decide +kernel) rfl rfl (Nat.le_of_ble_eq_true rfl) dX9_feed_104 (fun H locs hP hD hS => ?_)
                have hP : va_P (dC, dI) vwCl [(h0, .inr (9, [.int 0, .ref a0, .ref a1, .ref a2, .int dc, .ref a3, .int (lz + 1), .ref a4, .int xl, .int fo, .int fa, .ref a5, .int mn, .ref a6, .int ft, .ref a7, .int wl])), (a3, .inl (cB, 3000, .inl (upd tz lz.toNatClampNeg (vp_nar .byte (((we >>> ((24 - (8 * (k &&& 3))) &&& 31)) : Int32).toInt8.toInt32)))))] H := hP
                have hD : va_D A [(h0, .inr (9, [.int 0, .ref a0, .ref a1, .ref a2, .int dc, .ref a3, .int (lz + 1), .ref a4, .int xl, .int fo, .int fa, .ref a5, .int mn, .ref a6, .int ft, .ref a7, .int wl])), (a3, .inl (cB, 3000, .inl (upd tz lz.toNatClampNeg (vp_nar .byte (((we >>> ((24 - (8 * (k &&& 3))) &&& 31)) : Int32).toInt8.toInt32)))))] := hD
                refine lv_iinc (v := (k + 1)) (lv' := [(6, .int (k + 1)), (7, .int we), (0, .ref h0), (1, .int wa), (2, .int wb), (3, .int wc), (4, .int wd), (5, .int we)]) hx hb dX9_feed_107 hl (k := 7) rfl rfl (by decide) rfl (fun ls hl => ?_)
                refine lv_goto (tgt := 23) hx hb dX9_feed_110 (by decide) ?_
                have v_572 : 0 ≤ ((k + 1)).toInt := by
                  have k_573 : (20 : Int32).toInt = 20 := by decide
                  have q_574 := i_nle c_1
                  have k_575 : (4 : Int32).toInt = 4 := by decide
                  have q_576 := i_lt c_2
                  have k_577 : (8 : Int32).toInt = 8 := by decide
                  have q_578 := i_nlt c_3
                  have k_579 : (12 : Int32).toInt = 12 := by decide
                  have q_580 := i_nlt c_315
                  have k_581 : (16 : Int32).toInt = 16 := by decide
                  have q_582 := i_nlt c_471
                  have k_583 : (1 : Int32).toInt = 1 := by decide
                  have t_584 := ti_add (a := k) (b := 1) (by omega) (by omega)
                  try generalize Int32.toInt (k + 1) = z0 at *
                  try generalize Int32.toInt (12 : Int32) = z1 at *
                  try generalize Int32.toInt (16 : Int32) = z2 at *
                  try generalize Int32.toInt (20 : Int32) = z3 at *
                  try generalize Int32.toInt lz = z4 at *
                  try generalize Int32.toInt tl = z5 at *
                  try generalize Int32.toInt (1 : Int32) = z6 at *
                  try generalize Int32.toInt (4 : Int32) = z7 at *
                  try generalize Int32.toInt (8 : Int32) = z8 at *
                  try generalize Int32.toInt k = z9 at *
                  omega
                have v_585 : ((k + 1)).toInt ≤ 20 := by
                  have k_586 : (20 : Int32).toInt = 20 := by decide
                  have q_587 := i_nle c_1
                  have k_588 : (4 : Int32).toInt = 4 := by decide
                  have q_589 := i_lt c_2
                  have k_590 : (8 : Int32).toInt = 8 := by decide
                  have q_591 := i_nlt c_3
                  have k_592 : (12 : Int32).toInt = 12 := by decide
                  have q_593 := i_nlt c_315
                  have k_594 : (16 : Int32).toInt = 16 := by decide
                  have q_595 := i_nlt c_471
                  have k_596 : (1 : Int32).toInt = 1 := by decide
                  have t_597 := ti_add (a := k) (b := 1) (by omega) (by omega)
                  try generalize Int32.toInt (k + 1) = z0 at *
                  try generalize Int32.toInt (12 : Int32) = z1 at *
                  try generalize Int32.toInt (16 : Int32) = z2 at *
                  try generalize Int32.toInt (20 : Int32) = z3 at *
                  try generalize Int32.toInt lz = z4 at *
                  try generalize Int32.toInt tl = z5 at *
                  try generalize Int32.toInt (1 : Int32) = z6 at *
                  try generalize Int32.toInt (4 : Int32) = z7 at *
                  try generalize Int32.toInt (8 : Int32) = z8 at *
                  try generalize Int32.toInt k = z9 at *
                  omega
                have v_598 : ((lz + 1)).toInt = tl.toInt + ((k + 1)).toInt := by
                  have k_599 : (20 : Int32).toInt = 20 := by decide
                  have q_600 := i_nle c_1
                  have k_601 : (4 : Int32).toInt = 4 := by decide
                  have q_602 := i_lt c_2
                  have k_603 : (8 : Int32).toInt = 8 := by decide
                  have q_604 := i_nlt c_3
                  have k_605 : (12 : Int32).toInt = 12 := by decide
                  have q_606 := i_nlt c_315
                  have k_607 : (16 : Int32).toInt = 16 := by decide
                  have q_608 := i_nlt c_471
                  have k_609 : (1 : Int32).toInt = 1 := by decide
                  have t_610 := ti_add (a := k) (b := 1) (by omega) (by omega)
                  have t_611 := ti_add (a := lz) (b := 1) (by omega) (by omega)
                  try generalize Int32.toInt (lz + 1) = z0 at *
                  try generalize Int32.toInt (k + 1) = z1 at *
                  try generalize Int32.toInt (12 : Int32) = z2 at *
                  try generalize Int32.toInt (16 : Int32) = z3 at *
                  try generalize Int32.toInt (20 : Int32) = z4 at *
                  try generalize Int32.toInt lz = z5 at *
                  try generalize Int32.toInt tl = z6 at *
                  try generalize Int32.toInt (1 : Int32) = z7 at *
                  try generalize Int32.toInt (4 : Int32) = z8 at *
                  try generalize Int32.toInt (8 : Int32) = z9 at *
                  try generalize Int32.toInt k = z10 at *
                  omega
                have v_612 : tl.toInt ≤ 2980 := by
                  first | exact hroom | assumption
                have v_613 : 20 - ((k + 1)).toInt < ((n : Nat) : Int) := by
                  have k_614 : (20 : Int32).toInt = 20 := by decide
                  have q_615 := i_nle c_1
                  have k_616 : (4 : Int32).toInt = 4 := by decide
                  have q_617 := i_lt c_2
                  have k_618 : (8 : Int32).toInt = 8 := by decide
                  have q_619 := i_nlt c_3
                  have k_620 : (12 : Int32).toInt = 12 := by decide
                  have q_621 := i_nlt c_315
                  have k_622 : (16 : Int32).toInt = 16 := by decide
                  have q_623 := i_nlt c_471
                  have k_624 : (1 : Int32).toInt = 1 := by decide
                  have t_625 := ti_add (a := k) (b := 1) (by omega) (by omega)
                  try generalize Int32.toInt (k + 1) = z0 at *
                  try generalize Int32.toInt (12 : Int32) = z1 at *
                  try generalize Int32.toInt (16 : Int32) = z2 at *
                  try generalize Int32.toInt (20 : Int32) = z3 at *
                  try generalize Int32.toInt lz = z4 at *
                  try generalize Int32.toInt tl = z5 at *
                  try generalize Int32.toInt (1 : Int32) = z6 at *
                  try generalize Int32.toInt (4 : Int32) = z7 at *
                  try generalize Int32.toInt (8 : Int32) = z8 at *
                  try generalize Int32.toInt k = z9 at *
                  omega
                exact ih ((k + 1)) ((upd tz lz.toNatClampNeg (vp_nar .byte (((we >>> ((24 - (8 * (k &&& 3))) &&& 31)) : Int32).toInt8.toInt32)))) ((lz + 1)) _ _ ls hR v_572 v_585 v_598 v_612 v_613 hP hD hS (lv_sub hl [2, 3, 4, 5, 6, 7, 0] rfl)
        · rw [if_neg c_2] at hR
          refine lv_iload_n hx hb dX9_feed_39 rfl (lv_at hl 3 rfl) ?_
          refine lv_istore (lv' := [(7, .int wb), (0, .ref h0), (1, .int wa), (2, .int wb), (3, .int wc), (4, .int wd), (5, .int we), (6, .int k)]) hx hb dX9_feed_40 hl (by decide) rfl (fun ls hl => ?_)
          refine lv_iload hx hb dX9_feed_42 (lv_at hl 7 rfl) ?_
          refine lv_bipush (v := 8) hx hb dX9_feed_44 (by decide) ?_
          refine lv_icmp_lt (tgt := 52) hx hb dX9_feed_46 (by decide) (fun c_626 => ?_) (fun c_626 => ?_)
          · rw [if_pos c_626] at hR
            refine lv_iload hx hb dX9_feed_52 (lv_at hl 7 rfl) ?_
            refine lv_bipush (v := 12) hx hb dX9_feed_54 (by decide) ?_
            refine lv_icmp_lt (tgt := 63) hx hb dX9_feed_56 (by decide) (fun c_627 => ?_) (fun c_627 => ?_)
            · rw [if_pos c_627] at hR
              refine lv_iload hx hb dX9_feed_63 (lv_at hl 7 rfl) ?_
              refine lv_bipush (v := 16) hx hb dX9_feed_65 (by decide) ?_
              refine lv_icmp_lt (tgt := 74) hx hb dX9_feed_67 (by decide) (fun c_628 => ?_) (fun c_628 => ?_)
              · rw [if_pos c_628] at hR
                refine lv_aload_n hx hb dX9_feed_74 rfl (lv_at hl 1 rfl) ?_
                refine va_get (D := (dC, dI)) (ci := 9) (v := .ref a3) (C := RX9) (T := TX9) (N := 17) hx hb hts inc_X9_feed_9 hown hG.1 hP 0 rfl rfl 5 (by decide) (hts (.fieldLink RX9 26 "MappingDeskModel" "tape" "[B") (by decide +kernel)) (fun _ h9 => h9) rfl dX9_feed_75 ?_
                refine lv_aload_n hx hb dX9_feed_78 rfl (lv_at hl 1 rfl) ?_
                refine va_get (D := (dC, dI)) (ci := 9) (v := .int lz) (C := RX9) (T := TX9) (N := 17) hx hb hts inc_X9_feed_9 hown hG.1 hP 0 rfl rfl 6 (by decide) (hts (.fieldLink RX9 30 "MappingDeskModel" "tapeLen" "I") (by decide +kernel)) (fun _ h9 => h9) rfl dX9_feed_79 ?_
                refine lv_iload hx hb dX9_feed_82 (lv_at hl 0 rfl) ?_
                refine lv_bipush (v := 24) hx hb dX9_feed_84 (by decide) ?_
                refine lv_bipush (v := 8) hx hb dX9_feed_86 (by decide) ?_
                refine lv_iload hx hb dX9_feed_88 (lv_at hl 7 rfl) ?_
                refine lv_iconst (v := 3) hx hb dX9_feed_90 (by decide) ?_
                refine lv_iand hx hb dX9_feed_91 ?_
                refine lv_imul hx hb dX9_feed_92 ?_
                refine lv_isub hx hb dX9_feed_93 ?_
                refine lv_ishr hx hb dX9_feed_94 ?_
                refine lv_i2b hx hb dX9_feed_95 rfl ?_
                have b_629 : vp_in lz 3000 := by
                  have k_630 : (20 : Int32).toInt = 20 := by decide
                  have q_631 := i_nle c_1
                  have k_632 : (4 : Int32).toInt = 4 := by decide
                  have q_633 := i_nlt c_2
                  have k_634 : (8 : Int32).toInt = 8 := by decide
                  have q_635 := i_lt c_626
                  have k_636 : (12 : Int32).toInt = 12 := by decide
                  have q_637 := i_lt c_627
                  have k_638 : (16 : Int32).toInt = 16 := by decide
                  have q_639 := i_lt c_628
                  refine vin ?_ ?_
                  all_goals (try generalize Int32.toInt (12 : Int32) = z0 at *; try generalize Int32.toInt (16 : Int32) = z1 at *; try generalize Int32.toInt (20 : Int32) = z2 at *; try generalize Int32.toInt lz = z3 at *; try generalize Int32.toInt tl = z4 at *; try generalize Int32.toInt (4 : Int32) = z5 at *; try generalize Int32.toInt (8 : Int32) = z6 at *; try generalize Int32.toInt k = z7 at *; omega)
                refine va_bast hx hb hG.1 hP hD hS 1 0 rfl rfl b_629 dX9_feed_96 (fun H locs hP hD hS => ?_)
                have hP : va_P (dC, dI) vwCl [(h0, .inr (9, [.int 0, .ref a0, .ref a1, .ref a2, .int dc, .ref a3, .int lz, .ref a4, .int xl, .int fo, .int fa, .ref a5, .int mn, .ref a6, .int ft, .ref a7, .int wl])), (a3, .inl (cB, 3000, .inl (upd tz lz.toNatClampNeg (vp_nar .byte (((wb >>> ((24 - (8 * (k &&& 3))) &&& 31)) : Int32).toInt8.toInt32)))))] H := hP
                have hD : va_D A [(h0, .inr (9, [.int 0, .ref a0, .ref a1, .ref a2, .int dc, .ref a3, .int lz, .ref a4, .int xl, .int fo, .int fa, .ref a5, .int mn, .ref a6, .int ft, .ref a7, .int wl])), (a3, .inl (cB, 3000, .inl (upd tz lz.toNatClampNeg (vp_nar .byte (((wb >>> ((24 - (8 * (k &&& 3))) &&& 31)) : Int32).toInt8.toInt32)))))] := hD
                refine lv_aload_n hx hb dX9_feed_97 rfl (lv_at hl 1 rfl) ?_
                refine lv_dup hx hb dX9_feed_98 rfl ?_
                refine va_get (D := (dC, dI)) (ci := 9) (v := .int lz) (C := RX9) (T := TX9) (N := 17) hx hb hts inc_X9_feed_9 hown hG.1 hP 0 rfl rfl 6 (by decide) (hts (.fieldLink RX9 30 "MappingDeskModel" "tapeLen" "I") (by decide +kernel)) (fun _ h9 => h9) rfl dX9_feed_99 ?_
                refine lv_iconst (v := 1) hx hb dX9_feed_102 (by decide) ?_
                refine lv_iadd hx hb dX9_feed_103 ?_
                refine va_put (D := (dC, dI)) (ci := 9) (v := .int (lz + 1)) (ty := .int) (C := RX9) (T := TX9) (N := 17) hx hb hts inc_X9_feed_9 tyX9 tyX9_ok nmX9 hown hG.1 hP hD hS 0 rfl rfl 6 (by decide) (hts (.fieldLink RX9 30 "MappingDeskModel" "tapeLen" "I") (by decide +kernel)) (fun _ h9 => h9) rfl (by decide +kernel) rfl rfl (Nat.le_of_ble_eq_true rfl) dX9_feed_104 (fun H locs hP hD hS => ?_)
                have hP : va_P (dC, dI) vwCl [(h0, .inr (9, [.int 0, .ref a0, .ref a1, .ref a2, .int dc, .ref a3, .int (lz + 1), .ref a4, .int xl, .int fo, .int fa, .ref a5, .int mn, .ref a6, .int ft, .ref a7, .int wl])), (a3, .inl (cB, 3000, .inl (upd tz lz.toNatClampNeg (vp_nar .byte (((wb >>> ((24 - (8 * (k &&& 3))) &&& 31)) : Int32).toInt8.toInt32)))))] H := hP
                have hD : va_D A [(h0, .inr (9, [.int 0, .ref a0, .ref a1, .ref a2, .int dc, .ref a3, .int (lz + 1), .ref a4, .int xl, .int fo, .int fa, .ref a5, .int mn, .ref a6, .int ft, .ref a7, .int wl])), (a3, .inl (cB, 3000, .inl (upd tz lz.toNatClampNeg (vp_nar .byte (((wb >>> ((24 - (8 * (k &&& 3))) &&& 31)) : Int32).toInt8.toInt32)))))] := hD
                refine lv_iinc (v := (k + 1)) (lv' := [(6, .int (k + 1)), (7, .int wb), (0, .ref h0), (1, .int wa), (2, .int wb), (3, .int wc), (4, .int wd), (5, .int we)]) hx hb dX9_feed_107 hl (k := 7) rfl rfl (by decide) rfl (fun ls hl => ?_)
                refine lv_goto (tgt := 23) hx hb dX9_feed_110 (by decide) ?_
                have v_652 : 0 ≤ ((k + 1)).toInt := by
                  have k_653 : (20 : Int32).toInt = 20 := by decide
                  have q_654 := i_nle c_1
                  have k_655 : (4 : Int32).toInt = 4 := by decide
                  have q_656 := i_nlt c_2
                  have k_657 : (8 : Int32).toInt = 8 := by decide
                  have q_658 := i_lt c_626
                  have k_659 : (12 : Int32).toInt = 12 := by decide
                  have q_660 := i_lt c_627
                  have k_661 : (16 : Int32).toInt = 16 := by decide
                  have q_662 := i_lt c_628
                  have k_663 : (1 : Int32).toInt = 1 := by decide
                  have t_664 := ti_add (a := k) (b := 1) (by omega) (by omega)
                  try generalize Int32.toInt (k + 1) = z0 at *
                  try generalize Int32.toInt (12 : Int32) = z1 at *
                  try generalize Int32.toInt (16 : Int32) = z2 at *
                  try generalize Int32.toInt (20 : Int32) = z3 at *
                  try generalize Int32.toInt lz = z4 at *
                  try generalize Int32.toInt tl = z5 at *
                  try generalize Int32.toInt (1 : Int32) = z6 at *
                  try generalize Int32.toInt (4 : Int32) = z7 at *
                  try generalize Int32.toInt (8 : Int32) = z8 at *
                  try generalize Int32.toInt k = z9 at *
                  omega
                have v_665 : ((k + 1)).toInt ≤ 20 := by
                  have k_666 : (20 : Int32).toInt = 20 := by decide
                  have q_667 := i_nle c_1
                  have k_668 : (4 : Int32).toInt = 4 := by decide
                  have q_669 := i_nlt c_2
                  have k_670 : (8 : Int32).toInt = 8 := by decide
                  have q_671 := i_lt c_626
                  have k_672 : (12 : Int32).toInt = 12 := by decide
                  have q_673 := i_lt c_627
                  have k_674 : (16 : Int32).toInt = 16 := by decide
                  have q_675 := i_lt c_628
                  have k_676 : (1 : Int32).toInt = 1 := by decide
                  have t_677 := ti_add (a := k) (b := 1) (by omega) (by omega)
                  try generalize Int32.toInt (k + 1) = z0 at *
                  try generalize Int32.toInt (12 : Int32) = z1 at *
                  try generalize Int32.toInt (16 : Int32) = z2 at *
                  try generalize Int32.toInt (20 : Int32) = z3 at *
                  try generalize Int32.toInt lz = z4 at *
                  try generalize Int32.toInt tl = z5 at *
                  try generalize Int32.toInt (1 : Int32) = z6 at *
                  try generalize Int32.toInt (4 : Int32) = z7 at *
                  try generalize Int32.toInt (8 : Int32) = z8 at *
                  try generalize Int32.toInt k = z9 at *
                  omega
                have v_678 : ((lz + 1)).toInt = tl.toInt + ((k + 1)).toInt := by
                  have k_679 : (20 : Int32).toInt = 20 := by decide
                  have q_680 := i_nle c_1
                  have k_681 : (4 : Int32).toInt = 4 := by decide
                  have q_682 := i_nlt c_2
                  have k_683 : (8 : Int32).toInt = 8 := by decide
                  have q_684 := i_lt c_626
                  have k_685 : (12 : Int32).toInt = 12 := by decide
                  have q_686 := i_lt c_627
                  have k_687 : (16 : Int32).toInt = 16 := by decide
                  have q_688 := i_lt c_628
                  have k_689 : (1 : Int32).toInt = 1 := by decide
                  have t_690 := ti_add (a := k) (b := 1) (by omega) (by omega)
                  have t_691 := ti_add (a := lz) (b := 1) (by omega) (by omega)
                  try generalize Int32.toInt (lz + 1) = z0 at *
                  try generalize Int32.toInt (k + 1) = z1 at *
                  try generalize Int32.toInt (12 : Int32) = z2 at *
                  try generalize Int32.toInt (16 : Int32) = z3 at *
                  try generalize Int32.toInt (20 : Int32) = z4 at *
                  try generalize Int32.toInt lz = z5 at *
                  try generalize Int32.toInt tl = z6 at *
                  try generalize Int32.toInt (1 : Int32) = z7 at *
                  try generalize Int32.toInt (4 : Int32) = z8 at *
                  try generalize Int32.toInt (8 : Int32) = z9 at *
                  try generalize Int32.toInt k = z10 at *
                  omega
                have v_692 : tl.toInt ≤ 2980 := by
                  first | exact hroom | assumption
                have v_693 : 20 - ((k + 1)).toInt < ((n : Nat) : Int) := by
                  have k_694 : (20 : Int32).toInt = 20 := by decide
                  have q_695 := i_nle c_1
                  have k_696 : (4 : Int32).toInt = 4 := by decide
                  have q_697 := i_nlt c_2
                  have k_698 : (8 : Int32).toInt = 8 := by decide
                  have q_699 := i_lt c_626
                  have k_700 : (12 : Int32).toInt = 12 := by decide
                  have q_701 := i_lt c_627
                  have k_702 : (16 : Int32).toInt = 16 := by decide
                  have q_703 := i_lt c_628
                  have k_704 : (1 : Int32).toInt = 1 := by decide
                  have t_705 := ti_add (a := k) (b := 1) (by omega) (by omega)
                  try generalize Int32.toInt (k + 1) = z0 at *
                  try generalize Int32.toInt (12 : Int32) = z1 at *
                  try generalize Int32.toInt (16 : Int32) = z2 at *
                  try generalize Int32.toInt (20 : Int32) = z3 at *
                  try generalize Int32.toInt lz = z4 at *
                  try generalize Int32.toInt tl = z5 at *
                  try generalize Int32.toInt (1 : Int32) = z6 at *
                  try generalize Int32.toInt (4 : Int32) = z7 at *
                  try generalize Int32.toInt (8 : Int32) = z8 at *
                  try generalize Int32.toInt k = z9 at *
                  omega
                exact ih ((k + 1)) ((upd tz lz.toNatClampNeg (vp_nar .byte (((wb >>> ((24 - (8 * (k &&& 3))) &&& 31)) : Int32).toInt8.toInt32)))) ((lz + 1)) _ _ ls hR v_652 v_665 v_678 v_692 v_693 hP hD hS (lv_sub hl [2, 3, 4, 5, 6, 7, 0] rfl)
              · rw [if_neg c_628] at hR
                refine lv_iload hx hb dX9_feed_70 (lv_at hl 6 rfl) ?_
                refine lv_istore (lv' := [(7, .int we), (0, .ref h0), (1, .int wa), (2, .int wb), (3, .int wc), (4, .int wd), (5, .int we), (6, .int k)]) hx hb dX9_feed_72 hl (by decide) rfl (fun ls hl => ?_)
                refine lv_aload_n hx hb dX9_feed_74 rfl (lv_at hl 1 rfl) ?_
                refine va_get (D := (dC, dI)) (ci := 9) (v := .ref a3) (C := RX9) (T := TX9) (N := 17) hx hb hts inc_X9_feed_9 hown hG.1 hP 0 rfl rfl 5 (by decide) (hts (.fieldLink RX9 26 "MappingDeskModel" "tape" "[B") (by decide +kernel)) (fun _ h9 => h9) rfl dX9_feed_75 ?_
                refine lv_aload_n hx hb dX9_feed_78 rfl (lv_at hl 1 rfl) ?_
                refine va_get (D := (dC, dI)) (ci := 9) (v := .int lz) (C := RX9) (T := TX9) (N := 17) hx hb hts inc_X9_feed_9 hown hG.1 hP 0 rfl rfl 6 (by decide) (hts (.fieldLink RX9 30 "MappingDeskModel" "tapeLen" "I") (by decide +kernel)) (fun _ h9 => h9) rfl dX9_feed_79 ?_
                refine lv_iload hx hb dX9_feed_82 (lv_at hl 0 rfl) ?_
                refine lv_bipush (v := 24) hx hb dX9_feed_84 (by decide) ?_
                refine lv_bipush (v := 8) hx hb dX9_feed_86 (by decide) ?_
                refine lv_iload hx hb dX9_feed_88 (lv_at hl 7 rfl) ?_
                refine lv_iconst (v := 3) hx hb dX9_feed_90 (by decide) ?_
                refine lv_iand hx hb dX9_feed_91 ?_
                refine lv_imul hx hb dX9_feed_92 ?_
                refine lv_isub hx hb dX9_feed_93 ?_
                refine lv_ishr hx hb dX9_feed_94 ?_
                refine lv_i2b hx hb dX9_feed_95 rfl ?_
                have b_706 : vp_in lz 3000 := by
                  have k_707 : (20 : Int32).toInt = 20 := by decide
                  have q_708 := i_nle c_1
                  have k_709 : (4 : Int32).toInt = 4 := by decide
                  have q_710 := i_nlt c_2
                  have k_711 : (8 : Int32).toInt = 8 := by decide
                  have q_712 := i_lt c_626
                  have k_713 : (12 : Int32).toInt = 12 := by decide
                  have q_714 := i_lt c_627
                  have k_715 : (16 : Int32).toInt = 16 := by decide
                  have q_716 := i_nlt c_628
                  refine vin ?_ ?_
                  all_goals (try generalize Int32.toInt (12 : Int32) = z0 at *; try generalize Int32.toInt (16 : Int32) = z1 at *; try generalize Int32.toInt (20 : Int32) = z2 at *; try generalize Int32.toInt lz = z3 at *; try generalize Int32.toInt tl = z4 at *; try generalize Int32.toInt (4 : Int32) = z5 at *; try generalize Int32.toInt (8 : Int32) = z6 at *; try generalize Int32.toInt k = z7 at *; omega)
                refine va_bast hx hb hG.1 hP hD hS 1 0 rfl rfl b_706 dX9_feed_96 (fun H locs hP hD hS => ?_)
                have hP : va_P (dC, dI) vwCl [(h0, .inr (9, [.int 0, .ref a0, .ref a1, .ref a2, .int dc, .ref a3, .int lz, .ref a4, .int xl, .int fo, .int fa, .ref a5, .int mn, .ref a6, .int ft, .ref a7, .int wl])), (a3, .inl (cB, 3000, .inl (upd tz lz.toNatClampNeg (vp_nar .byte (((we >>> ((24 - (8 * (k &&& 3))) &&& 31)) : Int32).toInt8.toInt32)))))] H := hP
                have hD : va_D A [(h0, .inr (9, [.int 0, .ref a0, .ref a1, .ref a2, .int dc, .ref a3, .int lz, .ref a4, .int xl, .int fo, .int fa, .ref a5, .int mn, .ref a6, .int ft, .ref a7, .int wl])), (a3, .inl (cB, 3000, .inl (upd tz lz.toNatClampNeg (vp_nar .byte (((we >>> ((24 - (8 * (k &&& 3))) &&& 31)) : Int32).toInt8.toInt32)))))] := hD
                refine lv_aload_n hx hb dX9_feed_97 rfl (lv_at hl 1 rfl) ?_
                refine lv_dup hx hb dX9_feed_98 rfl ?_
                refine va_get (D := (dC, dI)) (ci := 9) (v := .int lz) (C := RX9) (T := TX9) (N := 17) hx hb hts inc_X9_feed_9 hown hG.1 hP 0 rfl rfl 6 (by decide) (hts (.fieldLink RX9 30 "MappingDeskModel" "tapeLen" "I") (by decide +kernel)) (fun _ h9 => h9) rfl dX9_feed_99 ?_
                refine lv_iconst (v := 1) hx hb dX9_feed_102 (by decide) ?_
                refine lv_iadd hx hb dX9_feed_103 ?_
                refine va_put (D := (dC, dI)) (ci := 9) (v := .int (lz + 1)) (ty := .int) (C := RX9) (T := TX9) (N := 17) hx hb hts inc_X9_feed_9 tyX9 tyX9_ok nmX9 hown hG.1 hP hD hS 0 rfl rfl 6 (by decide) (hts (.fieldLink RX9 30 "MappingDeskModel" "tapeLen" "I") (by decide +kernel)) (fun _ h9 => h9) rfl (by decide +kernel) rfl rfl (Nat.le_of_ble_eq_true rfl) dX9_feed_104 (fun H locs hP hD hS => ?_)
                have hP : va_P (dC, dI) vwCl [(h0, .inr (9, [.int 0, .ref a0, .ref a1, .ref a2, .int dc, .ref a3, .int (lz + 1), .ref a4, .int xl, .int fo, .int fa, .ref a5, .int mn, .ref a6, .int ft, .ref a7, .int wl])), (a3, .inl (cB, 3000, .inl (upd tz lz.toNatClampNeg (vp_nar .byte (((we >>> ((24 - (8 * (k &&& 3))) &&& 31)) : Int32).toInt8.toInt32)))))] H := hP
                have hD : va_D A [(h0, .inr (9, [.int 0, .ref a0, .ref a1, .ref a2, .int dc, .ref a3, .int (lz + 1), .ref a4, .int xl, .int fo, .int fa, .ref a5, .int mn, .ref a6, .int ft, .ref a7, .int wl])), (a3, .inl (cB, 3000, .inl (upd tz lz.toNatClampNeg (vp_nar .byte (((we >>> ((24 - (8 * (k &&& 3))) &&& 31)) : Int32).toInt8.toInt32)))))] := hD
                refine lv_iinc (v := (k + 1)) (lv' := [(6, .int (k + 1)), (7, .int we), (0, .ref h0), (1, .int wa), (2, .int wb), (3, .int wc), (4, .int wd), (5, .int we)]) hx hb dX9_feed_107 hl (k := 7) rfl rfl (by decide) rfl (fun ls hl => ?_)
                refine lv_goto (tgt := 23) hx hb dX9_feed_110 (by decide) ?_
                have v_729 : 0 ≤ ((k + 1)).toInt := by
                  have k_730 : (20 : Int32).toInt = 20 := by decide
                  have q_731 := i_nle c_1
                  have k_732 : (4 : Int32).toInt = 4 := by decide
                  have q_733 := i_nlt c_2
                  have k_734 : (8 : Int32).toInt = 8 := by decide
                  have q_735 := i_lt c_626
                  have k_736 : (12 : Int32).toInt = 12 := by decide
                  have q_737 := i_lt c_627
                  have k_738 : (16 : Int32).toInt = 16 := by decide
                  have q_739 := i_nlt c_628
                  have k_740 : (1 : Int32).toInt = 1 := by decide
                  have t_741 := ti_add (a := k) (b := 1) (by omega) (by omega)
                  try generalize Int32.toInt (k + 1) = z0 at *
                  try generalize Int32.toInt (12 : Int32) = z1 at *
                  try generalize Int32.toInt (16 : Int32) = z2 at *
                  try generalize Int32.toInt (20 : Int32) = z3 at *
                  try generalize Int32.toInt lz = z4 at *
                  try generalize Int32.toInt tl = z5 at *
                  try generalize Int32.toInt (1 : Int32) = z6 at *
                  try generalize Int32.toInt (4 : Int32) = z7 at *
                  try generalize Int32.toInt (8 : Int32) = z8 at *
                  try generalize Int32.toInt k = z9 at *
                  omega
                have v_742 : ((k + 1)).toInt ≤ 20 := by
                  have k_743 : (20 : Int32).toInt = 20 := by decide
                  have q_744 := i_nle c_1
                  have k_745 : (4 : Int32).toInt = 4 := by decide
                  have q_746 := i_nlt c_2
                  have k_747 : (8 : Int32).toInt = 8 := by decide
                  have q_748 := i_lt c_626
                  have k_749 : (12 : Int32).toInt = 12 := by decide
                  have q_750 := i_lt c_627
                  have k_751 : (16 : Int32).toInt = 16 := by decide
                  have q_752 := i_nlt c_628
                  have k_753 : (1 : Int32).toInt = 1 := by decide
                  have t_754 := ti_add (a := k) (b := 1) (by omega) (by omega)
                  try generalize Int32.toInt (k + 1) = z0 at *
                  try generalize Int32.toInt (12 : Int32) = z1 at *
                  try generalize Int32.toInt (16 : Int32) = z2 at *
                  try generalize Int32.toInt (20 : Int32) = z3 at *
                  try generalize Int32.toInt lz = z4 at *
                  try generalize Int32.toInt tl = z5 at *
                  try generalize Int32.toInt (1 : Int32) = z6 at *
                  try generalize Int32.toInt (4 : Int32) = z7 at *
                  try generalize Int32.toInt (8 : Int32) = z8 at *
                  try generalize Int32.toInt k = z9 at *
                  omega
                have v_755 : ((lz + 1)).toInt = tl.toInt + ((k + 1)).toInt := by
                  have k_756 : (20 : Int32).toInt = 20 := by decide
                  have q_757 := i_nle c_1
                  have k_758 : (4 : Int32).toInt = 4 := by decide
                  have q_759 := i_nlt c_2
                  have k_760 : (8 : Int32).toInt = 8 := by decide
                  have q_761 := i_lt c_626
                  have k_762 : (12 : Int32).toInt = 12 := by decide
                  have q_763 := i_lt c_627
                  have k_764 : (16 : Int32).toInt = 16 := by decide
                  have q_765 := i_nlt c_628
                  have k_766 : (1 : Int32).toInt = 1 := by decide
                  have t_767 := ti_add (a := k) (b := 1) (by omega) (by omega)
                  have t_768 := ti_add (a := lz) (b := 1) (by omega) (by omega)
                  try generalize Int32.toInt (lz + 1) = z0 at *
                  try generalize Int32.toInt (k + 1) = z1 at *
                  try generalize Int32.toInt (12 : Int32) = z2 at *
                  try generalize Int32.toInt (16 : Int32) = z3 at *
                  try generalize Int32.toInt (20 : Int32) = z4 at *
                  try generalize Int32.toInt lz = z5 at *
                  try generalize Int32.toInt tl = z6 at *
                  try generalize Int32.toInt (1 : Int32) = z7 at *
                  try generalize Int32.toInt (4 : Int32) = z8 at *
                  try generalize Int32.toInt (8 : Int32) = z9 at *
                  try generalize Int32.toInt k = z10 at *
                  omega
                have v_769 : tl.toInt ≤ 2980 := by
                  first | exact hroom | assumption
                have v_770 : 20 - ((k + 1)).toInt < ((n : Nat) : Int) := by
                  have k_771 : (20 : Int32).toInt = 20 := by decide
                  have q_772 := i_nle c_1
                  have k_773 : (4 : Int32).toInt = 4 := by decide
                  have q_774 := i_nlt c_2
                  have k_775 : (8 : Int32).toInt = 8 := by decide
                  have q_776 := i_lt c_626
                  have k_777 : (12 : Int32).toInt = 12 := by decide
                  have q_778 := i_lt c_627
                  have k_779 : (16 : Int32).toInt = 16 := by decide
                  have q_780 := i_nlt c_628
                  have k_781 : (1 : Int32).toInt = 1 := by decide
                  have t_782 := ti_add (a := k) (b := 1) (by omega) (by omega)
                  try generalize Int32.toInt (k + 1) = z0 at *
                  try generalize Int32.toInt (12 : Int32) = z1 at *
                  try generalize Int32.toInt (16 : Int32) = z2 at *
                  try generalize Int32.toInt (20 : Int32) = z3 at *
                  try generalize Int32.toInt lz = z4 at *
                  try generalize Int32.toInt tl = z5 at *
                  try generalize Int32.toInt (1 : Int32) = z6 at *
                  try generalize Int32.toInt (4 : Int32) = z7 at *
                  try generalize Int32.toInt (8 : Int32) = z8 at *
                  try generalize Int32.toInt k = z9 at *
                  omega
                exact ih ((k + 1)) ((upd tz lz.toNatClampNeg (vp_nar .byte (((we >>> ((24 - (8 * (k &&& 3))) &&& 31)) : Int32).toInt8.toInt32)))) ((lz + 1)) _ _ ls hR v_729 v_742 v_755 v_769 v_770 hP hD hS (lv_sub hl [2, 3, 4, 5, 6, 7, 0] rfl)
            · rw [if_neg c_627] at hR
              refine lv_iload hx hb dX9_feed_59 (lv_at hl 5 rfl) ?_
              refine lv_istore (lv' := [(7, .int wd), (0, .ref h0), (1, .int wa), (2, .int wb), (3, .int wc), (4, .int wd), (5, .int we), (6, .int k)]) hx hb dX9_feed_61 hl (by decide) rfl (fun ls hl => ?_)
              refine lv_iload hx hb dX9_feed_63 (lv_at hl 7 rfl) ?_
              refine lv_bipush (v := 16) hx hb dX9_feed_65 (by decide) ?_
              refine lv_icmp_lt (tgt := 74) hx hb dX9_feed_67 (by decide) (fun c_783 => ?_) (fun c_783 => ?_)
              · rw [if_pos c_783] at hR
                refine lv_aload_n hx hb dX9_feed_74 rfl (lv_at hl 1 rfl) ?_
                refine va_get (D := (dC, dI)) (ci := 9) (v := .ref a3) (C := RX9) (T := TX9) (N := 17) hx hb hts inc_X9_feed_9 hown hG.1 hP 0 rfl rfl 5 (by decide) (hts (.fieldLink RX9 26 "MappingDeskModel" "tape" "[B") (by decide +kernel)) (fun _ h9 => h9) rfl dX9_feed_75 ?_
                refine lv_aload_n hx hb dX9_feed_78 rfl (lv_at hl 1 rfl) ?_
                refine va_get (D := (dC, dI)) (ci := 9) (v := .int lz) (C := RX9) (T := TX9) (N := 17) hx hb hts inc_X9_feed_9 hown hG.1 hP 0 rfl rfl 6 (by decide) (hts (.fieldLink RX9 30 "MappingDeskModel" "tapeLen" "I") (by decide +kernel)) (fun _ h9 => h9) rfl dX9_feed_79 ?_
                refine lv_iload hx hb dX9_feed_82 (lv_at hl 0 rfl) ?_
                refine lv_bipush (v := 24) hx hb dX9_feed_84 (by decide) ?_
                refine lv_bipush (v := 8) hx hb dX9_feed_86 (by decide) ?_
                refine lv_iload hx hb dX9_feed_88 (lv_at hl 7 rfl) ?_
                refine lv_iconst (v := 3) hx hb dX9_feed_90 (by decide) ?_
                refine lv_iand hx hb dX9_feed_91 ?_
                refine lv_imul hx hb dX9_feed_92 ?_
                refine lv_isub hx hb dX9_feed_93 ?_
                refine lv_ishr hx hb dX9_feed_94 ?_
                refine lv_i2b hx hb dX9_feed_95 rfl ?_
                have b_784 : vp_in lz 3000 := by
                  have k_785 : (20 : Int32).toInt = 20 := by decide
                  have q_786 := i_nle c_1
                  have k_787 : (4 : Int32).toInt = 4 := by decide
                  have q_788 := i_nlt c_2
                  have k_789 : (8 : Int32).toInt = 8 := by decide
                  have q_790 := i_lt c_626
                  have k_791 : (12 : Int32).toInt = 12 := by decide
                  have q_792 := i_nlt c_627
                  have k_793 : (16 : Int32).toInt = 16 := by decide
                  have q_794 := i_lt c_783
                  refine vin ?_ ?_
                  all_goals (try generalize Int32.toInt (12 : Int32) = z0 at *; try generalize Int32.toInt (16 : Int32) = z1 at *; try generalize Int32.toInt (20 : Int32) = z2 at *; try generalize Int32.toInt lz = z3 at *; try generalize Int32.toInt tl = z4 at *; try generalize Int32.toInt (4 : Int32) = z5 at *; try generalize Int32.toInt (8 : Int32) = z6 at *; try generalize Int32.toInt k = z7 at *; omega)
                refine va_bast hx hb hG.1 hP hD hS 1 0 rfl rfl b_784 dX9_feed_96 (fun H locs hP hD hS => ?_)
                have hP : va_P (dC, dI) vwCl [(h0, .inr (9, [.int 0, .ref a0, .ref a1, .ref a2, .int dc, .ref a3, .int lz, .ref a4, .int xl, .int fo, .int fa, .ref a5, .int mn, .ref a6, .int ft, .ref a7, .int wl])), (a3, .inl (cB, 3000, .inl (upd tz lz.toNatClampNeg (vp_nar .byte (((wd >>> ((24 - (8 * (k &&& 3))) &&& 31)) : Int32).toInt8.toInt32)))))] H := hP
                have hD : va_D A [(h0, .inr (9, [.int 0, .ref a0, .ref a1, .ref a2, .int dc, .ref a3, .int lz, .ref a4, .int xl, .int fo, .int fa, .ref a5, .int mn, .ref a6, .int ft, .ref a7, .int wl])), (a3, .inl (cB, 3000, .inl (upd tz lz.toNatClampNeg (vp_nar .byte (((wd >>> ((24 - (8 * (k &&& 3))) &&& 31)) : Int32).toInt8.toInt32)))))] := hD
                refine lv_aload_n hx hb dX9_feed_97 rfl (lv_at hl 1 rfl) ?_
                refine lv_dup hx hb dX9_feed_98 rfl ?_
                refine va_get (D := (dC, dI)) (ci := 9) (v := .int lz) (C := RX9) (T := TX9) (N := 17) hx hb hts inc_X9_feed_9 hown hG.1 hP 0 rfl rfl 6 (by decide) (hts (.fieldLink RX9 30 "MappingDeskModel" "tapeLen" "I") (by decide +kernel)) (fun _ h9 => h9) rfl dX9_feed_99 ?_
                refine lv_iconst (v := 1) hx hb dX9_feed_102 (by decide) ?_
                refine lv_iadd hx hb dX9_feed_103 ?_
                refine va_put (D := (dC, dI)) (ci := 9) (v := .int (lz + 1)) (ty := .int) (C := RX9) (T := TX9) (N := 17) hx hb hts inc_X9_feed_9 tyX9 tyX9_ok nmX9 hown hG.1 hP hD hS 0 rfl rfl 6 (by decide) (hts (.fieldLink RX9 30 "MappingDeskModel" "tapeLen" "I") (by decide +kernel)) (fun _ h9 => h9) rfl (by decide +kernel) rfl rfl (Nat.le_of_ble_eq_true rfl) dX9_feed_104 (fun H locs hP hD hS => ?_)
                have hP : va_P (dC, dI) vwCl [(h0, .inr (9, [.int 0, .ref a0, .ref a1, .ref a2, .int dc, .ref a3, .int (lz + 1), .ref a4, .int xl, .int fo, .int fa, .ref a5, .int mn, .ref a6, .int ft, .ref a7, .int wl])), (a3, .inl (cB, 3000, .inl (upd tz lz.toNatClampNeg (vp_nar .byte (((wd >>> ((24 - (8 * (k &&& 3))) &&& 31)) : Int32).toInt8.toInt32)))))] H := hP
                have hD : va_D A [(h0, .inr (9, [.int 0, .ref a0, .ref a1, .ref a2, .int dc, .ref a3, .int (lz + 1), .ref a4, .int xl, .int fo, .int fa, .ref a5, .int mn, .ref a6, .int ft, .ref a7, .int wl])), (a3, .inl (cB, 3000, .inl (upd tz lz.toNatClampNeg (vp_nar .byte (((wd >>> ((24 - (8 * (k &&& 3))) &&& 31)) : Int32).toInt8.toInt32)))))] := hD
                refine lv_iinc (v := (k + 1)) (lv' := [(6, .int (k + 1)), (7, .int wd), (0, .ref h0), (1, .int wa), (2, .int wb), (3, .int wc), (4, .int wd), (5, .int we)]) hx hb dX9_feed_107 hl (k := 7) rfl rfl (by decide) rfl (fun ls hl => ?_)
                refine lv_goto (tgt := 23) hx hb dX9_feed_110 (by decide) ?_
                have v_807 : 0 ≤ ((k + 1)).toInt := by
                  have k_808 : (20 : Int32).toInt = 20 := by decide
                  have q_809 := i_nle c_1
                  have k_810 : (4 : Int32).toInt = 4 := by decide
                  have q_811 := i_nlt c_2
                  have k_812 : (8 : Int32).toInt = 8 := by decide
                  have q_813 := i_lt c_626
                  have k_814 : (12 : Int32).toInt = 12 := by decide
                  have q_815 := i_nlt c_627
                  have k_816 : (16 : Int32).toInt = 16 := by decide
                  have q_817 := i_lt c_783
                  have k_818 : (1 : Int32).toInt = 1 := by decide
                  have t_819 := ti_add (a := k) (b := 1) (by omega) (by omega)
                  try generalize Int32.toInt (k + 1) = z0 at *
                  try generalize Int32.toInt (12 : Int32) = z1 at *
                  try generalize Int32.toInt (16 : Int32) = z2 at *
                  try generalize Int32.toInt (20 : Int32) = z3 at *
                  try generalize Int32.toInt lz = z4 at *
                  try generalize Int32.toInt tl = z5 at *
                  try generalize Int32.toInt (1 : Int32) = z6 at *
                  try generalize Int32.toInt (4 : Int32) = z7 at *
                  try generalize Int32.toInt (8 : Int32) = z8 at *
                  try generalize Int32.toInt k = z9 at *
                  omega
                have v_820 : ((k + 1)).toInt ≤ 20 := by
                  have k_821 : (20 : Int32).toInt = 20 := by decide
                  have q_822 := i_nle c_1
                  have k_823 : (4 : Int32).toInt = 4 := by decide
                  have q_824 := i_nlt c_2
                  have k_825 : (8 : Int32).toInt = 8 := by decide
                  have q_826 := i_lt c_626
                  have k_827 : (12 : Int32).toInt = 12 := by decide
                  have q_828 := i_nlt c_627
                  have k_829 : (16 : Int32).toInt = 16 := by decide
                  have q_830 := i_lt c_783
                  have k_831 : (1 : Int32).toInt = 1 := by decide
                  have t_832 := ti_add (a := k) (b := 1) (by omega) (by omega)
                  try generalize Int32.toInt (k + 1) = z0 at *
                  try generalize Int32.toInt (12 : Int32) = z1 at *
                  try generalize Int32.toInt (16 : Int32) = z2 at *
                  try generalize Int32.toInt (20 : Int32) = z3 at *
                  try generalize Int32.toInt lz = z4 at *
                  try generalize Int32.toInt tl = z5 at *
                  try generalize Int32.toInt (1 : Int32) = z6 at *
                  try generalize Int32.toInt (4 : Int32) = z7 at *
                  try generalize Int32.toInt (8 : Int32) = z8 at *
                  try generalize Int32.toInt k = z9 at *
                  omega
                have v_833 : ((lz + 1)).toInt = tl.toInt + ((k + 1)).toInt := by
                  have k_834 : (20 : Int32).toInt = 20 := by decide
                  have q_835 := i_nle c_1
                  have k_836 : (4 : Int32).toInt = 4 := by decide
                  have q_837 := i_nlt c_2
                  have k_838 : (8 : Int32).toInt = 8 := by decide
                  have q_839 := i_lt c_626
                  have k_840 : (12 : Int32).toInt = 12 := by decide
                  have q_841 := i_nlt c_627
                  have k_842 : (16 : Int32).toInt = 16 := by decide
                  have q_843 := i_lt c_783
                  have k_844 : (1 : Int32).toInt = 1 := by decide
                  have t_845 := ti_add (a := k) (b := 1) (by omega) (by omega)
                  have t_846 := ti_add (a := lz) (b := 1) (by omega) (by omega)
                  try generalize Int32.toInt (lz + 1) = z0 at *
                  try generalize Int32.toInt (k + 1) = z1 at *
                  try generalize Int32.toInt (12 : Int32) = z2 at *
                  try generalize Int32.toInt (16 : Int32) = z3 at *
                  try generalize Int32.toInt (20 : Int32) = z4 at *
                  try generalize Int32.toInt lz = z5 at *
                  try generalize Int32.toInt tl = z6 at *
                  try generalize Int32.toInt (1 : Int32) = z7 at *
                  try generalize Int32.toInt (4 : Int32) = z8 at *
                  try generalize Int32.toInt (8 : Int32) = z9 at *
                  try generalize Int32.toInt k = z10 at *
                  omega
                have v_847 : tl.toInt ≤ 2980 := by
                  first | exact hroom | assumption
                have v_848 : 20 - ((k + 1)).toInt < ((n : Nat) : Int) := by
                  have k_849 : (20 : Int32).toInt = 20 := by decide
                  have q_850 := i_nle c_1
                  have k_851 : (4 : Int32).toInt = 4 := by decide
                  have q_852 := i_nlt c_2
                  have k_853 : (8 : Int32).toInt = 8 := by decide
                  have q_854 := i_lt c_626
                  have k_855 : (12 : Int32).toInt = 12 := by decide
                  have q_856 := i_nlt c_627
                  have k_857 : (16 : Int32).toInt = 16 := by decide
                  have q_858 := i_lt c_783
                  have k_859 : (1 : Int32).toInt = 1 := by decide
                  have t_860 := ti_add (a := k) (b := 1) (by omega) (by omega)
                  try generalize Int32.toInt (k + 1) = z0 at *
                  try generalize Int32.toInt (12 : Int32) = z1 at *
                  try generalize Int32.toInt (16 : Int32) = z2 at *
                  try generalize Int32.toInt (20 : Int32) = z3 at *
                  try generalize Int32.toInt lz = z4 at *
                  try generalize Int32.toInt tl = z5 at *
                  try generalize Int32.toInt (1 : Int32) = z6 at *
                  try generalize Int32.toInt (4 : Int32) = z7 at *
                  try generalize Int32.toInt (8 : Int32) = z8 at *
                  try generalize Int32.toInt k = z9 at *
                  omega
                exact ih ((k + 1)) ((upd tz lz.toNatClampNeg (vp_nar .byte (((wd >>> ((24 - (8 * (k &&& 3))) &&& 31)) : Int32).toInt8.toInt32)))) ((lz + 1)) _ _ ls hR v_807 v_820 v_833 v_847 v_848 hP hD hS (lv_sub hl [2, 3, 4, 5, 6, 7, 0] rfl)
              · rw [if_neg c_783] at hR
                refine lv_iload hx hb dX9_feed_70 (lv_at hl 6 rfl) ?_
                refine lv_istore (lv' := [(7, .int we), (0, .ref h0), (1, .int wa), (2, .int wb), (3, .int wc), (4, .int wd), (5, .int we), (6, .int k)]) hx hb dX9_feed_72 hl (by decide) rfl (fun ls hl => ?_)
                refine lv_aload_n hx hb dX9_feed_74 rfl (lv_at hl 1 rfl) ?_
                refine va_get (D := (dC, dI)) (ci := 9) (v := .ref a3) (C := RX9) (T := TX9) (N := 17) hx hb hts inc_X9_feed_9 hown hG.1 hP 0 rfl rfl 5 (by decide) (hts (.fieldLink RX9 26 "MappingDeskModel" "tape" "[B") (by decide +kernel)) (fun _ h9 => h9) rfl dX9_feed_75 ?_
                refine lv_aload_n hx hb dX9_feed_78 rfl (lv_at hl 1 rfl) ?_
                refine va_get (D := (dC, dI)) (ci := 9) (v := .int lz) (C := RX9) (T := TX9) (N := 17) hx hb hts inc_X9_feed_9 hown hG.1 hP 0 rfl rfl 6 (by decide) (hts (.fieldLink RX9 30 "MappingDeskModel" "tapeLen" "I") (by decide +kernel)) (fun _ h9 => h9) rfl dX9_feed_79 ?_
                refine lv_iload hx hb dX9_feed_82 (lv_at hl 0 rfl) ?_
                refine lv_bipush (v := 24) hx hb dX9_feed_84 (by decide) ?_
                refine lv_bipush (v := 8) hx hb dX9_feed_86 (by decide) ?_
                refine lv_iload hx hb dX9_feed_88 (lv_at hl 7 rfl) ?_
                refine lv_iconst (v := 3) hx hb dX9_feed_90 (by decide) ?_
                refine lv_iand hx hb dX9_feed_91 ?_
                refine lv_imul hx hb dX9_feed_92 ?_
                refine lv_isub hx hb dX9_feed_93 ?_
                refine lv_ishr hx hb dX9_feed_94 ?_
                refine lv_i2b hx hb dX9_feed_95 rfl ?_
                have b_861 : vp_in lz 3000 := by
                  have k_862 : (20 : Int32).toInt = 20 := by decide
                  have q_863 := i_nle c_1
                  have k_864 : (4 : Int32).toInt = 4 := by decide
                  have q_865 := i_nlt c_2
                  have k_866 : (8 : Int32).toInt = 8 := by decide
                  have q_867 := i_lt c_626
                  have k_868 : (12 : Int32).toInt = 12 := by decide
                  have q_869 := i_nlt c_627
                  have k_870 : (16 : Int32).toInt = 16 := by decide
                  have q_871 := i_nlt c_783
                  refine vin ?_ ?_
                  all_goals (try generalize Int32.toInt (12 : Int32) = z0 at *; try generalize Int32.toInt (16 : Int32) = z1 at *; try generalize Int32.toInt (20 : Int32) = z2 at *; try generalize Int32.toInt lz = z3 at *; try generalize Int32.toInt tl = z4 at *; try generalize Int32.toInt (4 : Int32) = z5 at *; try generalize Int32.toInt (8 : Int32) = z6 at *; try generalize Int32.toInt k = z7 at *; omega)
                refine va_bast hx hb hG.1 hP hD hS 1 0 rfl rfl b_861 dX9_feed_96 (fun H locs hP hD hS => ?_)
                have hP : va_P (dC, dI) vwCl [(h0, .inr (9, [.int 0, .ref a0, .ref a1, .ref a2, .int dc, .ref a3, .int lz, .ref a4, .int xl, .int fo, .int fa, .ref a5, .int mn, .ref a6, .int ft, .ref a7, .int wl])), (a3, .inl (cB, 3000, .inl (upd tz lz.toNatClampNeg (vp_nar .byte (((we >>> ((24 - (8 * (k &&& 3))) &&& 31)) : Int32).toInt8.toInt32)))))] H := hP
                have hD : va_D A [(h0, .inr (9, [.int 0, .ref a0, .ref a1, .ref a2, .int dc, .ref a3, .int lz, .ref a4, .int xl, .int fo, .int fa, .ref a5, .int mn, .ref a6, .int ft, .ref a7, .int wl])), (a3, .inl (cB, 3000, .inl (upd tz lz.toNatClampNeg (vp_nar .byte (((we >>> ((24 - (8 * (k &&& 3))) &&& 31)) : Int32).toInt8.toInt32)))))] := hD
                refine lv_aload_n hx hb dX9_feed_97 rfl (lv_at hl 1 rfl) ?_
                refine lv_dup hx hb dX9_feed_98 rfl ?_
                refine va_get (D := (dC, dI)) (ci := 9) (v := .int lz) (C := RX9) (T := TX9) (N := 17) hx hb hts inc_X9_feed_9 hown hG.1 hP 0 rfl rfl 6 (by decide) (hts (.fieldLink RX9 30 "MappingDeskModel" "tapeLen" "I") (by decide +kernel)) (fun _ h9 => h9) rfl dX9_feed_99 ?_
                refine lv_iconst (v := 1) hx hb dX9_feed_102 (by decide) ?_
                refine lv_iadd hx hb dX9_feed_103 ?_
                refine va_put (D := (dC, dI)) (ci := 9) (v := .int (lz + 1)) (ty := .int) (C := RX9) (T := TX9) (N := 17) hx hb hts inc_X9_feed_9 tyX9 tyX9_ok nmX9 hown hG.1 hP hD hS 0 rfl rfl 6 (by decide) (hts (.fieldLink RX9 30 "MappingDeskModel" "tapeLen" "I") (by decide +kernel)) (fun _ h9 => h9) rfl (by decide +kernel) rfl rfl (Nat.le_of_ble_eq_true rfl) dX9_feed_104 (fun H locs hP hD hS => ?_)
                have hP : va_P (dC, dI) vwCl [(h0, .inr (9, [.int 0, .ref a0, .ref a1, .ref a2, .int dc, .ref a3, .int (lz + 1), .ref a4, .int xl, .int fo, .int fa, .ref a5, .int mn, .ref a6, .int ft, .ref a7, .int wl])), (a3, .inl (cB, 3000, .inl (upd tz lz.toNatClampNeg (vp_nar .byte (((we >>> ((24 - (8 * (k &&& 3))) &&& 31)) : Int32).toInt8.toInt32)))))] H := hP
                have hD : va_D A [(h0, .inr (9, [.int 0, .ref a0, .ref a1, .ref a2, .int dc, .ref a3, .int (lz + 1), .ref a4, .int xl, .int fo, .int fa, .ref a5, .int mn, .ref a6, .int ft, .ref a7, .int wl])), (a3, .inl (cB, 3000, .inl (upd tz lz.toNatClampNeg (vp_nar .byte (((we >>> ((24 - (8 * (k &&& 3))) &&& 31)) : Int32).toInt8.toInt32)))))] := hD
                refine lv_iinc (v := (k + 1)) (lv' := [(6, .int (k + 1)), (7, .int we), (0, .ref h0), (1, .int wa), (2, .int wb), (3, .int wc), (4, .int wd), (5, .int we)]) hx hb dX9_feed_107 hl (k := 7) rfl rfl (by decide) rfl (fun ls hl => ?_)
                refine lv_goto (tgt := 23) hx hb dX9_feed_110 (by decide) ?_
                have v_884 : 0 ≤ ((k + 1)).toInt := by
                  have k_885 : (20 : Int32).toInt = 20 := by decide
                  have q_886 := i_nle c_1
                  have k_887 : (4 : Int32).toInt = 4 := by decide
                  have q_888 := i_nlt c_2
                  have k_889 : (8 : Int32).toInt = 8 := by decide
                  have q_890 := i_lt c_626
                  have k_891 : (12 : Int32).toInt = 12 := by decide
                  have q_892 := i_nlt c_627
                  have k_893 : (16 : Int32).toInt = 16 := by decide
                  have q_894 := i_nlt c_783
                  have k_895 : (1 : Int32).toInt = 1 := by decide
                  have t_896 := ti_add (a := k) (b := 1) (by omega) (by omega)
                  try generalize Int32.toInt (k + 1) = z0 at *
                  try generalize Int32.toInt (12 : Int32) = z1 at *
                  try generalize Int32.toInt (16 : Int32) = z2 at *
                  try generalize Int32.toInt (20 : Int32) = z3 at *
                  try generalize Int32.toInt lz = z4 at *
                  try generalize Int32.toInt tl = z5 at *
                  try generalize Int32.toInt (1 : Int32) = z6 at *
                  try generalize Int32.toInt (4 : Int32) = z7 at *
                  try generalize Int32.toInt (8 : Int32) = z8 at *
                  try generalize Int32.toInt k = z9 at *
                  omega
                have v_897 : ((k + 1)).toInt ≤ 20 := by
                  have k_898 : (20 : Int32).toInt = 20 := by decide
                  have q_899 := i_nle c_1
                  have k_900 : (4 : Int32).toInt = 4 := by decide
                  have q_901 := i_nlt c_2
                  have k_902 : (8 : Int32).toInt = 8 := by decide
                  have q_903 := i_lt c_626
                  have k_904 : (12 : Int32).toInt = 12 := by decide
                  have q_905 := i_nlt c_627
                  have k_906 : (16 : Int32).toInt = 16 := by decide
                  have q_907 := i_nlt c_783
                  have k_908 : (1 : Int32).toInt = 1 := by decide
                  have t_909 := ti_add (a := k) (b := 1) (by omega) (by omega)
                  try generalize Int32.toInt (k + 1) = z0 at *
                  try generalize Int32.toInt (12 : Int32) = z1 at *
                  try generalize Int32.toInt (16 : Int32) = z2 at *
                  try generalize Int32.toInt (20 : Int32) = z3 at *
                  try generalize Int32.toInt lz = z4 at *
                  try generalize Int32.toInt tl = z5 at *
                  try generalize Int32.toInt (1 : Int32) = z6 at *
                  try generalize Int32.toInt (4 : Int32) = z7 at *
                  try generalize Int32.toInt (8 : Int32) = z8 at *
                  try generalize Int32.toInt k = z9 at *
                  omega
                have v_910 : ((lz + 1)).toInt = tl.toInt + ((k + 1)).toInt := by
                  have k_911 : (20 : Int32).toInt = 20 := by decide
                  have q_912 := i_nle c_1
                  have k_913 : (4 : Int32).toInt = 4 := by decide
                  have q_914 := i_nlt c_2
                  have k_915 : (8 : Int32).toInt = 8 := by decide
                  have q_916 := i_lt c_626
                  have k_917 : (12 : Int32).toInt = 12 := by decide
                  have q_918 := i_nlt c_627
                  have k_919 : (16 : Int32).toInt = 16 := by decide
                  have q_920 := i_nlt c_783
                  have k_921 : (1 : Int32).toInt = 1 := by decide
                  have t_922 := ti_add (a := k) (b := 1) (by omega) (by omega)
                  have t_923 := ti_add (a := lz) (b := 1) (by omega) (by omega)
                  try generalize Int32.toInt (lz + 1) = z0 at *
                  try generalize Int32.toInt (k + 1) = z1 at *
                  try generalize Int32.toInt (12 : Int32) = z2 at *
                  try generalize Int32.toInt (16 : Int32) = z3 at *
                  try generalize Int32.toInt (20 : Int32) = z4 at *
                  try generalize Int32.toInt lz = z5 at *
                  try generalize Int32.toInt tl = z6 at *
                  try generalize Int32.toInt (1 : Int32) = z7 at *
                  try generalize Int32.toInt (4 : Int32) = z8 at *
                  try generalize Int32.toInt (8 : Int32) = z9 at *
                  try generalize Int32.toInt k = z10 at *
                  omega
                have v_924 : tl.toInt ≤ 2980 := by
                  first | exact hroom | assumption
                have v_925 : 20 - ((k + 1)).toInt < ((n : Nat) : Int) := by
                  have k_926 : (20 : Int32).toInt = 20 := by decide
                  have q_927 := i_nle c_1
                  have k_928 : (4 : Int32).toInt = 4 := by decide
                  have q_929 := i_nlt c_2
                  have k_930 : (8 : Int32).toInt = 8 := by decide
                  have q_931 := i_lt c_626
                  have k_932 : (12 : Int32).toInt = 12 := by decide
                  have q_933 := i_nlt c_627
                  have k_934 : (16 : Int32).toInt = 16 := by decide
                  have q_935 := i_nlt c_783
                  have k_936 : (1 : Int32).toInt = 1 := by decide
                  have t_937 := ti_add (a := k) (b := 1) (by omega) (by omega)
                  try generalize Int32.toInt (k + 1) = z0 at *
                  try generalize Int32.toInt (12 : Int32) = z1 at *
                  try generalize Int32.toInt (16 : Int32) = z2 at *
                  try generalize Int32.toInt (20 : Int32) = z3 at *
                  try generalize Int32.toInt lz = z4 at *
                  try generalize Int32.toInt tl = z5 at *
                  try generalize Int32.toInt (1 : Int32) = z6 at *
                  try generalize Int32.toInt (4 : Int32) = z7 at *
                  try generalize Int32.toInt (8 : Int32) = z8 at *
                  try generalize Int32.toInt k = z9 at *
                  omega
                exact ih ((k + 1)) ((upd tz lz.toNatClampNeg (vp_nar .byte (((we >>> ((24 - (8 * (k &&& 3))) &&& 31)) : Int32).toInt8.toInt32)))) ((lz + 1)) _ _ ls hR v_884 v_897 v_910 v_924 v_925 hP hD hS (lv_sub hl [2, 3, 4, 5, 6, 7, 0] rfl)
          · rw [if_neg c_626] at hR
            refine lv_iload_n hx hb dX9_feed_49 rfl (lv_at hl 4 rfl) ?_
            refine lv_istore (lv' := [(7, .int wc), (0, .ref h0), (1, .int wa), (2, .int wb), (3, .int wc), (4, .int wd), (5, .int we), (6, .int k)]) hx hb dX9_feed_50 hl (by decide) rfl (fun ls hl => ?_)
            refine lv_iload hx hb dX9_feed_52 (lv_at hl 7 rfl) ?_
            refine lv_bipush (v := 12) hx hb dX9_feed_54 (by decide) ?_
            refine lv_icmp_lt (tgt := 63) hx hb dX9_feed_56 (by decide) (fun c_938 => ?_) (fun c_938 => ?_)
            · rw [if_pos c_938] at hR
              refine lv_iload hx hb dX9_feed_63 (lv_at hl 7 rfl) ?_
              refine lv_bipush (v := 16) hx hb dX9_feed_65 (by decide) ?_
              refine lv_icmp_lt (tgt := 74) hx hb dX9_feed_67 (by decide) (fun c_939 => ?_) (fun c_939 => ?_)
              · rw [if_pos c_939] at hR
                refine lv_aload_n hx hb dX9_feed_74 rfl (lv_at hl 1 rfl) ?_
                refine va_get (D := (dC, dI)) (ci := 9) (v := .ref a3) (C := RX9) (T := TX9) (N := 17) hx hb hts inc_X9_feed_9 hown hG.1 hP 0 rfl rfl 5 (by decide) (hts (.fieldLink RX9 26 "MappingDeskModel" "tape" "[B") (by decide +kernel)) (fun _ h9 => h9) rfl dX9_feed_75 ?_
                refine lv_aload_n hx hb dX9_feed_78 rfl (lv_at hl 1 rfl) ?_
                refine va_get (D := (dC, dI)) (ci := 9) (v := .int lz) (C := RX9) (T := TX9) (N := 17) hx hb hts inc_X9_feed_9 hown hG.1 hP 0 rfl rfl 6 (by decide) (hts (.fieldLink RX9 30 "MappingDeskModel" "tapeLen" "I") (by decide +kernel)) (fun _ h9 => h9) rfl dX9_feed_79 ?_
                refine lv_iload hx hb dX9_feed_82 (lv_at hl 0 rfl) ?_
                refine lv_bipush (v := 24) hx hb dX9_feed_84 (by decide) ?_
                refine lv_bipush (v := 8) hx hb dX9_feed_86 (by decide) ?_
                refine lv_iload hx hb dX9_feed_88 (lv_at hl 7 rfl) ?_
                refine lv_iconst (v := 3) hx hb dX9_feed_90 (by decide) ?_
                refine lv_iand hx hb dX9_feed_91 ?_
                refine lv_imul hx hb dX9_feed_92 ?_
                refine lv_isub hx hb dX9_feed_93 ?_
                refine lv_ishr hx hb dX9_feed_94 ?_
                refine lv_i2b hx hb dX9_feed_95 rfl ?_
                have b_940 : vp_in lz 3000 := by
                  have k_941 : (20 : Int32).toInt = 20 := by decide
                  have q_942 := i_nle c_1
                  have k_943 : (4 : Int32).toInt = 4 := by decide
                  have q_944 := i_nlt c_2
                  have k_945 : (8 : Int32).toInt = 8 := by decide
                  have q_946 := i_nlt c_626
                  have k_947 : (12 : Int32).toInt = 12 := by decide
                  have q_948 := i_lt c_938
                  have k_949 : (16 : Int32).toInt = 16 := by decide
                  have q_950 := i_lt c_939
                  refine vin ?_ ?_
                  all_goals (try generalize Int32.toInt (12 : Int32) = z0 at *; try generalize Int32.toInt (16 : Int32) = z1 at *; try generalize Int32.toInt (20 : Int32) = z2 at *; try generalize Int32.toInt lz = z3 at *; try generalize Int32.toInt tl = z4 at *; try generalize Int32.toInt (4 : Int32) = z5 at *; try generalize Int32.toInt (8 : Int32) = z6 at *; try generalize Int32.toInt k = z7 at *; omega)
                refine va_bast hx hb hG.1 hP hD hS 1 0 rfl rfl b_940 dX9_feed_96 (fun H locs hP hD hS => ?_)
                have hP : va_P (dC, dI) vwCl [(h0, .inr (9, [.int 0, .ref a0, .ref a1, .ref a2, .int dc, .ref a3, .int lz, .ref a4, .int xl, .int fo, .int fa, .ref a5, .int mn, .ref a6, .int ft, .ref a7, .int wl])), (a3, .inl (cB, 3000, .inl (upd tz lz.toNatClampNeg (vp_nar .byte (((wc >>> ((24 - (8 * (k &&& 3))) &&& 31)) : Int32).toInt8.toInt32)))))] H := hP
                have hD : va_D A [(h0, .inr (9, [.int 0, .ref a0, .ref a1, .ref a2, .int dc, .ref a3, .int lz, .ref a4, .int xl, .int fo, .int fa, .ref a5, .int mn, .ref a6, .int ft, .ref a7, .int wl])), (a3, .inl (cB, 3000, .inl (upd tz lz.toNatClampNeg (vp_nar .byte (((wc >>> ((24 - (8 * (k &&& 3))) &&& 31)) : Int32).toInt8.toInt32)))))] := hD
                refine lv_aload_n hx hb dX9_feed_97 rfl (lv_at hl 1 rfl) ?_
                refine lv_dup hx hb dX9_feed_98 rfl ?_
                refine va_get (D := (dC, dI)) (ci := 9) (v := .int lz) (C := RX9) (T := TX9) (N := 17) hx hb hts inc_X9_feed_9 hown hG.1 hP 0 rfl rfl 6 (by decide) (hts (.fieldLink RX9 30 "MappingDeskModel" "tapeLen" "I") (by decide +kernel)) (fun _ h9 => h9) rfl dX9_feed_99 ?_
                refine lv_iconst (v := 1) hx hb dX9_feed_102 (by decide) ?_
                refine lv_iadd hx hb dX9_feed_103 ?_
                refine va_put (D := (dC, dI)) (ci := 9) (v := .int (lz + 1)) (ty := .int) (C := RX9) (T := TX9) (N := 17) hx hb hts inc_X9_feed_9 tyX9 tyX9_ok nmX9 hown hG.1 hP hD hS 0 rfl rfl 6 (by decide) (hts (.fieldLink RX9 30 "MappingDeskModel" "tapeLen" "I") (by decide +kernel)) (fun _ h9 => h9) rfl (by decide +kernel) rfl rfl (Nat.le_of_ble_eq_true rfl) dX9_feed_104 (fun H locs hP hD hS => ?_)
                have hP : va_P (dC, dI) vwCl [(h0, .inr (9, [.int 0, .ref a0, .ref a1, .ref a2, .int dc, .ref a3, .int (lz + 1), .ref a4, .int xl, .int fo, .int fa, .ref a5, .int mn, .ref a6, .int ft, .ref a7, .int wl])), (a3, .inl (cB, 3000, .inl (upd tz lz.toNatClampNeg (vp_nar .byte (((wc >>> ((24 - (8 * (k &&& 3))) &&& 31)) : Int32).toInt8.toInt32)))))] H := hP
                have hD : va_D A [(h0, .inr (9, [.int 0, .ref a0, .ref a1, .ref a2, .int dc, .ref a3, .int (lz + 1), .ref a4, .int xl, .int fo, .int fa, .ref a5, .int mn, .ref a6, .int ft, .ref a7, .int wl])), (a3, .inl (cB, 3000, .inl (upd tz lz.toNatClampNeg (vp_nar .byte (((wc >>> ((24 - (8 * (k &&& 3))) &&& 31)) : Int32).toInt8.toInt32)))))] := hD
                refine lv_iinc (v := (k + 1)) (lv' := [(6, .int (k + 1)), (7, .int wc), (0, .ref h0), (1, .int wa), (2, .int wb), (3, .int wc), (4, .int wd), (5, .int we)]) hx hb dX9_feed_107 hl (k := 7) rfl rfl (by decide) rfl (fun ls hl => ?_)
                refine lv_goto (tgt := 23) hx hb dX9_feed_110 (by decide) ?_
                have v_963 : 0 ≤ ((k + 1)).toInt := by
                  have k_964 : (20 : Int32).toInt = 20 := by decide
                  have q_965 := i_nle c_1
                  have k_966 : (4 : Int32).toInt = 4 := by decide
                  have q_967 := i_nlt c_2
                  have k_968 : (8 : Int32).toInt = 8 := by decide
                  have q_969 := i_nlt c_626
                  have k_970 : (12 : Int32).toInt = 12 := by decide
                  have q_971 := i_lt c_938
                  have k_972 : (16 : Int32).toInt = 16 := by decide
                  have q_973 := i_lt c_939
                  have k_974 : (1 : Int32).toInt = 1 := by decide
                  have t_975 := ti_add (a := k) (b := 1) (by omega) (by omega)
                  try generalize Int32.toInt (k + 1) = z0 at *
                  try generalize Int32.toInt (12 : Int32) = z1 at *
                  try generalize Int32.toInt (16 : Int32) = z2 at *
                  try generalize Int32.toInt (20 : Int32) = z3 at *
                  try generalize Int32.toInt lz = z4 at *
                  try generalize Int32.toInt tl = z5 at *
                  try generalize Int32.toInt (1 : Int32) = z6 at *
                  try generalize Int32.toInt (4 : Int32) = z7 at *
                  try generalize Int32.toInt (8 : Int32) = z8 at *
                  try generalize Int32.toInt k = z9 at *
                  omega
                have v_976 : ((k + 1)).toInt ≤ 20 := by
                  have k_977 : (20 : Int32).toInt = 20 := by decide
                  have q_978 := i_nle c_1
                  have k_979 : (4 : Int32).toInt = 4 := by decide
                  have q_980 := i_nlt c_2
                  have k_981 : (8 : Int32).toInt = 8 := by decide
                  have q_982 := i_nlt c_626
                  have k_983 : (12 : Int32).toInt = 12 := by decide
                  have q_984 := i_lt c_938
                  have k_985 : (16 : Int32).toInt = 16 := by decide
                  have q_986 := i_lt c_939
                  have k_987 : (1 : Int32).toInt = 1 := by decide
                  have t_988 := ti_add (a := k) (b := 1) (by omega) (by omega)
                  try generalize Int32.toInt (k + 1) = z0 at *
                  try generalize Int32.toInt (12 : Int32) = z1 at *
                  try generalize Int32.toInt (16 : Int32) = z2 at *
                  try generalize Int32.toInt (20 : Int32) = z3 at *
                  try generalize Int32.toInt lz = z4 at *
                  try generalize Int32.toInt tl = z5 at *
                  try generalize Int32.toInt (1 : Int32) = z6 at *
                  try generalize Int32.toInt (4 : Int32) = z7 at *
                  try generalize Int32.toInt (8 : Int32) = z8 at *
                  try generalize Int32.toInt k = z9 at *
                  omega
                have v_989 : ((lz + 1)).toInt = tl.toInt + ((k + 1)).toInt := by
                  have k_990 : (20 : Int32).toInt = 20 := by decide
                  have q_991 := i_nle c_1
                  have k_992 : (4 : Int32).toInt = 4 := by decide
                  have q_993 := i_nlt c_2
                  have k_994 : (8 : Int32).toInt = 8 := by decide
                  have q_995 := i_nlt c_626
                  have k_996 : (12 : Int32).toInt = 12 := by decide
                  have q_997 := i_lt c_938
                  have k_998 : (16 : Int32).toInt = 16 := by decide
                  have q_999 := i_lt c_939
                  have k_1000 : (1 : Int32).toInt = 1 := by decide
                  have t_1001 := ti_add (a := k) (b := 1) (by omega) (by omega)
                  have t_1002 := ti_add (a := lz) (b := 1) (by omega) (by omega)
                  try generalize Int32.toInt (lz + 1) = z0 at *
                  try generalize Int32.toInt (k + 1) = z1 at *
                  try generalize Int32.toInt (12 : Int32) = z2 at *
                  try generalize Int32.toInt (16 : Int32) = z3 at *
                  try generalize Int32.toInt (20 : Int32) = z4 at *
                  try generalize Int32.toInt lz = z5 at *
                  try generalize Int32.toInt tl = z6 at *
                  try generalize Int32.toInt (1 : Int32) = z7 at *
                  try generalize Int32.toInt (4 : Int32) = z8 at *
                  try generalize Int32.toInt (8 : Int32) = z9 at *
                  try generalize Int32.toInt k = z10 at *
                  omega
                have v_1003 : tl.toInt ≤ 2980 := by
                  first | exact hroom | assumption
                have v_1004 : 20 - ((k + 1)).toInt < ((n : Nat) : Int) := by
                  have k_1005 : (20 : Int32).toInt = 20 := by decide
                  have q_1006 := i_nle c_1
                  have k_1007 : (4 : Int32).toInt = 4 := by decide
                  have q_1008 := i_nlt c_2
                  have k_1009 : (8 : Int32).toInt = 8 := by decide
                  have q_1010 := i_nlt c_626
                  have k_1011 : (12 : Int32).toInt = 12 := by decide
                  have q_1012 := i_lt c_938
                  have k_1013 : (16 : Int32).toInt = 16 := by decide
                  have q_1014 := i_lt c_939
                  have k_1015 : (1 : Int32).toInt = 1 := by decide
                  have t_1016 := ti_add (a := k) (b := 1) (by omega) (by omega)
                  try generalize Int32.toInt (k + 1) = z0 at *
                  try generalize Int32.toInt (12 : Int32) = z1 at *
                  try generalize Int32.toInt (16 : Int32) = z2 at *
                  try generalize Int32.toInt (20 : Int32) = z3 at *
                  try generalize Int32.toInt lz = z4 at *
                  try generalize Int32.toInt tl = z5 at *
                  try generalize Int32.toInt (1 : Int32) = z6 at *
                  try generalize Int32.toInt (4 : Int32) = z7 at *
                  try generalize Int32.toInt (8 : Int32) = z8 at *
                  try generalize Int32.toInt k = z9 at *
                  omega
                exact ih ((k + 1)) ((upd tz lz.toNatClampNeg (vp_nar .byte (((wc >>> ((24 - (8 * (k &&& 3))) &&& 31)) : Int32).toInt8.toInt32)))) ((lz + 1)) _ _ ls hR v_963 v_976 v_989 v_1003 v_1004 hP hD hS (lv_sub hl [2, 3, 4, 5, 6, 7, 0] rfl)
              · rw [if_neg c_939] at hR
                refine lv_iload hx hb dX9_feed_70 (lv_at hl 6 rfl) ?_
                refine lv_istore (lv' := [(7, .int we), (0, .ref h0), (1, .int wa), (2, .int wb), (3, .int wc), (4, .int wd), (5, .int we), (6, .int k)]) hx hb dX9_feed_72 hl (by decide) rfl (fun ls hl => ?_)
                refine lv_aload_n hx hb dX9_feed_74 rfl (lv_at hl 1 rfl) ?_
                refine va_get (D := (dC, dI)) (ci := 9) (v := .ref a3) (C := RX9) (T := TX9) (N := 17) hx hb hts inc_X9_feed_9 hown hG.1 hP 0 rfl rfl 5 (by decide) (hts (.fieldLink RX9 26 "MappingDeskModel" "tape" "[B") (by decide +kernel)) (fun _ h9 => h9) rfl dX9_feed_75 ?_
                refine lv_aload_n hx hb dX9_feed_78 rfl (lv_at hl 1 rfl) ?_
                refine va_get (D := (dC, dI)) (ci := 9) (v := .int lz) (C := RX9) (T := TX9) (N := 17) hx hb hts inc_X9_feed_9 hown hG.1 hP 0 rfl rfl 6 (by decide) (hts (.fieldLink RX9 30 "MappingDeskModel" "tapeLen" "I") (by decide +kernel)) (fun _ h9 => h9) rfl dX9_feed_79 ?_
                refine lv_iload hx hb dX9_feed_82 (lv_at hl 0 rfl) ?_
                refine lv_bipush (v := 24) hx hb dX9_feed_84 (by decide) ?_
                refine lv_bipush (v := 8) hx hb dX9_feed_86 (by decide) ?_
                refine lv_iload hx hb dX9_feed_88 (lv_at hl 7 rfl) ?_
                refine lv_iconst (v := 3) hx hb dX9_feed_90 (by decide) ?_
                refine lv_iand hx hb dX9_feed_91 ?_
                refine lv_imul hx hb dX9_feed_92 ?_
                refine lv_isub hx hb dX9_feed_93 ?_
                refine lv_ishr hx hb dX9_feed_94 ?_
                refine lv_i2b hx hb dX9_feed_95 rfl ?_
                have b_1017 : vp_in lz 3000 := by
                  have k_1018 : (20 : Int32).toInt = 20 := by decide
                  have q_1019 := i_nle c_1
                  have k_1020 : (4 : Int32).toInt = 4 := by decide
                  have q_1021 := i_nlt c_2
                  have k_1022 : (8 : Int32).toInt = 8 := by decide
                  have q_1023 := i_nlt c_626
                  have k_1024 : (12 : Int32).toInt = 12 := by decide
                  have q_1025 := i_lt c_938
                  have k_1026 : (16 : Int32).toInt = 16 := by decide
                  have q_1027 := i_nlt c_939
                  refine vin ?_ ?_
                  all_goals (try generalize Int32.toInt (12 : Int32) = z0 at *; try generalize Int32.toInt (16 : Int32) = z1 at *; try generalize Int32.toInt (20 : Int32) = z2 at *; try generalize Int32.toInt lz = z3 at *; try generalize Int32.toInt tl = z4 at *; try generalize Int32.toInt (4 : Int32) = z5 at *; try generalize Int32.toInt (8 : Int32) = z6 at *; try generalize Int32.toInt k = z7 at *; omega)
                refine va_bast hx hb hG.1 hP hD hS 1 0 rfl rfl b_1017 dX9_feed_96 (fun H locs hP hD hS => ?_)
                have hP : va_P (dC, dI) vwCl [(h0, .inr (9, [.int 0, .ref a0, .ref a1, .ref a2, .int dc, .ref a3, .int lz, .ref a4, .int xl, .int fo, .int fa, .ref a5, .int mn, .ref a6, .int ft, .ref a7, .int wl])), (a3, .inl (cB, 3000, .inl (upd tz lz.toNatClampNeg (vp_nar .byte (((we >>> ((24 - (8 * (k &&& 3))) &&& 31)) : Int32).toInt8.toInt32)))))] H := hP
                have hD : va_D A [(h0, .inr (9, [.int 0, .ref a0, .ref a1, .ref a2, .int dc, .ref a3, .int lz, .ref a4, .int xl, .int fo, .int fa, .ref a5, .int mn, .ref a6, .int ft, .ref a7, .int wl])), (a3, .inl (cB, 3000, .inl (upd tz lz.toNatClampNeg (vp_nar .byte (((we >>> ((24 - (8 * (k &&& 3))) &&& 31)) : Int32).toInt8.toInt32)))))] := hD
                refine lv_aload_n hx hb dX9_feed_97 rfl (lv_at hl 1 rfl) ?_
                refine lv_dup hx hb dX9_feed_98 rfl ?_
                refine va_get (D := (dC, dI)) (ci := 9) (v := .int lz) (C := RX9) (T := TX9) (N := 17) hx hb hts inc_X9_feed_9 hown hG.1 hP 0 rfl rfl 6 (by decide) (hts (.fieldLink RX9 30 "MappingDeskModel" "tapeLen" "I") (by decide +kernel)) (fun _ h9 => h9) rfl dX9_feed_99 ?_
                refine lv_iconst (v := 1) hx hb dX9_feed_102 (by decide) ?_
                refine lv_iadd hx hb dX9_feed_103 ?_
                refine va_put (D := (dC, dI)) (ci := 9) (v := .int (lz + 1)) (ty := .int) (C := RX9) (T := TX9) (N := 17) hx hb hts inc_X9_feed_9 tyX9 tyX9_ok nmX9 hown hG.1 hP hD hS 0 rfl rfl 6 (by decide) (hts (.fieldLink RX9 30 "MappingDeskModel" "tapeLen" "I") (by decide +kernel)) (fun _ h9 => h9) rfl (by decide +kernel) rfl rfl (Nat.le_of_ble_eq_true rfl) dX9_feed_104 (fun H locs hP hD hS => ?_)
                have hP : va_P (dC, dI) vwCl [(h0, .inr (9, [.int 0, .ref a0, .ref a1, .ref a2, .int dc, .ref a3, .int (lz + 1), .ref a4, .int xl, .int fo, .int fa, .ref a5, .int mn, .ref a6, .int ft, .ref a7, .int wl])), (a3, .inl (cB, 3000, .inl (upd tz lz.toNatClampNeg (vp_nar .byte (((we >>> ((24 - (8 * (k &&& 3))) &&& 31)) : Int32).toInt8.toInt32)))))] H := hP
                have hD : va_D A [(h0, .inr (9, [.int 0, .ref a0, .ref a1, .ref a2, .int dc, .ref a3, .int (lz + 1), .ref a4, .int xl, .int fo, .int fa, .ref a5, .int mn, .ref a6, .int ft, .ref a7, .int wl])), (a3, .inl (cB, 3000, .inl (upd tz lz.toNatClampNeg (vp_nar .byte (((we >>> ((24 - (8 * (k &&& 3))) &&& 31)) : Int32).toInt8.toInt32)))))] := hD
                refine lv_iinc (v := (k + 1)) (lv' := [(6, .int (k + 1)), (7, .int we), (0, .ref h0), (1, .int wa), (2, .int wb), (3, .int wc), (4, .int wd), (5, .int we)]) hx hb dX9_feed_107 hl (k := 7) rfl rfl (by decide) rfl (fun ls hl => ?_)
                refine lv_goto (tgt := 23) hx hb dX9_feed_110 (by decide) ?_
                have v_1040 : 0 ≤ ((k + 1)).toInt := by
                  have k_1041 : (20 : Int32).toInt = 20 := by decide
                  have q_1042 := i_nle c_1
                  have k_1043 : (4 : Int32).toInt = 4 := by decide
                  have q_1044 := i_nlt c_2
                  have k_1045 : (8 : Int32).toInt = 8 := by decide
                  have q_1046 := i_nlt c_626
                  have k_1047 : (12 : Int32).toInt = 12 := by decide
                  have q_1048 := i_lt c_938
                  have k_1049 : (16 : Int32).toInt = 16 := by decide
                  have q_1050 := i_nlt c_939
                  have k_1051 : (1 : Int32).toInt = 1 := by decide
                  have t_1052 := ti_add (a := k) (b := 1) (by omega) (by omega)
                  try generalize Int32.toInt (k + 1) = z0 at *
                  try generalize Int32.toInt (12 : Int32) = z1 at *
                  try generalize Int32.toInt (16 : Int32) = z2 at *
                  try generalize Int32.toInt (20 : Int32) = z3 at *
                  try generalize Int32.toInt lz = z4 at *
                  try generalize Int32.toInt tl = z5 at *
                  try generalize Int32.toInt (1 : Int32) = z6 at *
                  try generalize Int32.toInt (4 : Int32) = z7 at *
                  try generalize Int32.toInt (8 : Int32) = z8 at *
                  try generalize Int32.toInt k = z9 at *
                  omega
                have v_1053 : ((k + 1)).toInt ≤ 20 := by
                  have k_1054 : (20 : Int32).toInt = 20 := by decide
                  have q_1055 := i_nle c_1
                  have k_1056 : (4 : Int32).toInt = 4 := by decide
                  have q_1057 := i_nlt c_2
                  have k_1058 : (8 : Int32).toInt = 8 := by decide
                  have q_1059 := i_nlt c_626
                  have k_1060 : (12 : Int32).toInt = 12 := by decide
                  have q_1061 := i_lt c_938
                  have k_1062 : (16 : Int32).toInt = 16 := by decide
                  have q_1063 := i_nlt c_939
                  have k_1064 : (1 : Int32).toInt = 1 := by decide
                  have t_1065 := ti_add (a := k) (b := 1) (by omega) (by omega)
                  try generalize Int32.toInt (k + 1) = z0 at *
                  try generalize Int32.toInt (12 : Int32) = z1 at *
                  try generalize Int32.toInt (16 : Int32) = z2 at *
                  try generalize Int32.toInt (20 : Int32) = z3 at *
                  try generalize Int32.toInt lz = z4 at *
                  try generalize Int32.toInt tl = z5 at *
                  try generalize Int32.toInt (1 : Int32) = z6 at *
                  try generalize Int32.toInt (4 : Int32) = z7 at *
                  try generalize Int32.toInt (8 : Int32) = z8 at *
                  try generalize Int32.toInt k = z9 at *
                  omega
                have v_1066 : ((lz + 1)).toInt = tl.toInt + ((k + 1)).toInt := by
                  have k_1067 : (20 : Int32).toInt = 20 := by decide
                  have q_1068 := i_nle c_1
                  have k_1069 : (4 : Int32).toInt = 4 := by decide
                  have q_1070 := i_nlt c_2
                  have k_1071 : (8 : Int32).toInt = 8 := by decide
                  have q_1072 := i_nlt c_626
                  have k_1073 : (12 : Int32).toInt = 12 := by decide
                  have q_1074 := i_lt c_938
                  have k_1075 : (16 : Int32).toInt = 16 := by decide
                  have q_1076 := i_nlt c_939
                  have k_1077 : (1 : Int32).toInt = 1 := by decide
                  have t_1078 := ti_add (a := k) (b := 1) (by omega) (by omega)
                  have t_1079 := ti_add (a := lz) (b := 1) (by omega) (by omega)
                  try generalize Int32.toInt (lz + 1) = z0 at *
                  try generalize Int32.toInt (k + 1) = z1 at *
                  try generalize Int32.toInt (12 : Int32) = z2 at *
                  try generalize Int32.toInt (16 : Int32) = z3 at *
                  try generalize Int32.toInt (20 : Int32) = z4 at *
                  try generalize Int32.toInt lz = z5 at *
                  try generalize Int32.toInt tl = z6 at *
                  try generalize Int32.toInt (1 : Int32) = z7 at *
                  try generalize Int32.toInt (4 : Int32) = z8 at *
                  try generalize Int32.toInt (8 : Int32) = z9 at *
                  try generalize Int32.toInt k = z10 at *
                  omega
                have v_1080 : tl.toInt ≤ 2980 := by
                  first | exact hroom | assumption
                have v_1081 : 20 - ((k + 1)).toInt < ((n : Nat) : Int) := by
                  have k_1082 : (20 : Int32).toInt = 20 := by decide
                  have q_1083 := i_nle c_1
                  have k_1084 : (4 : Int32).toInt = 4 := by decide
                  have q_1085 := i_nlt c_2
                  have k_1086 : (8 : Int32).toInt = 8 := by decide
                  have q_1087 := i_nlt c_626
                  have k_1088 : (12 : Int32).toInt = 12 := by decide
                  have q_1089 := i_lt c_938
                  have k_1090 : (16 : Int32).toInt = 16 := by decide
                  have q_1091 := i_nlt c_939
                  have k_1092 : (1 : Int32).toInt = 1 := by decide
                  have t_1093 := ti_add (a := k) (b := 1) (by omega) (by omega)
                  try generalize Int32.toInt (k + 1) = z0 at *
                  try generalize Int32.toInt (12 : Int32) = z1 at *
                  try generalize Int32.toInt (16 : Int32) = z2 at *
                  try generalize Int32.toInt (20 : Int32) = z3 at *
                  try generalize Int32.toInt lz = z4 at *
                  try generalize Int32.toInt tl = z5 at *
                  try generalize Int32.toInt (1 : Int32) = z6 at *
                  try generalize Int32.toInt (4 : Int32) = z7 at *
                  try generalize Int32.toInt (8 : Int32) = z8 at *
                  try generalize Int32.toInt k = z9 at *
                  omega
                exact ih ((k + 1)) ((upd tz lz.toNatClampNeg (vp_nar .byte (((we >>> ((24 - (8 * (k &&& 3))) &&& 31)) : Int32).toInt8.toInt32)))) ((lz + 1)) _ _ ls hR v_1040 v_1053 v_1066 v_1080 v_1081 hP hD hS (lv_sub hl [2, 3, 4, 5, 6, 7, 0] rfl)
            · rw [if_neg c_938] at hR
              refine lv_iload hx hb dX9_feed_59 (lv_at hl 5 rfl) ?_
              refine lv_istore (lv' := [(7, .int wd), (0, .ref h0), (1, .int wa), (2, .int wb), (3, .int wc), (4, .int wd), (5, .int we), (6, .int k)]) hx hb dX9_feed_61 hl (by decide) rfl (fun ls hl => ?_)
              refine lv_iload hx hb dX9_feed_63 (lv_at hl 7 rfl) ?_
              refine lv_bipush (v := 16) hx hb dX9_feed_65 (by decide) ?_
              refine lv_icmp_lt (tgt := 74) hx hb dX9_feed_67 (by decide) (fun c_1094 => ?_) (fun c_1094 => ?_)
              · rw [if_pos c_1094] at hR
                refine lv_aload_n hx hb dX9_feed_74 rfl (lv_at hl 1 rfl) ?_
                refine va_get (D := (dC, dI)) (ci := 9) (v := .ref a3) (C := RX9) (T := TX9) (N := 17) hx hb hts inc_X9_feed_9 hown hG.1 hP 0 rfl rfl 5 (by decide) (hts (.fieldLink RX9 26 "MappingDeskModel" "tape" "[B") (by decide +kernel)) (fun _ h9 => h9) rfl dX9_feed_75 ?_
                refine lv_aload_n hx hb dX9_feed_78 rfl (lv_at hl 1 rfl) ?_
                refine va_get (D := (dC, dI)) (ci := 9) (v := .int lz) (C := RX9) (T := TX9) (N := 17) hx hb hts inc_X9_feed_9 hown hG.1 hP 0 rfl rfl 6 (by decide) (hts (.fieldLink RX9 30 "MappingDeskModel" "tapeLen" "I") (by decide +kernel)) (fun _ h9 => h9) rfl dX9_feed_79 ?_
                refine lv_iload hx hb dX9_feed_82 (lv_at hl 0 rfl) ?_
                refine lv_bipush (v := 24) hx hb dX9_feed_84 (by decide) ?_
                refine lv_bipush (v := 8) hx hb dX9_feed_86 (by decide) ?_
                refine lv_iload hx hb dX9_feed_88 (lv_at hl 7 rfl) ?_
                refine lv_iconst (v := 3) hx hb dX9_feed_90 (by decide) ?_
                refine lv_iand hx hb dX9_feed_91 ?_
                refine lv_imul hx hb dX9_feed_92 ?_
                refine lv_isub hx hb dX9_feed_93 ?_
                refine lv_ishr hx hb dX9_feed_94 ?_
                refine lv_i2b hx hb dX9_feed_95 rfl ?_
                have b_1095 : vp_in lz 3000 := by
                  have k_1096 : (20 : Int32).toInt = 20 := by decide
                  have q_1097 := i_nle c_1
                  have k_1098 : (4 : Int32).toInt = 4 := by decide
                  have q_1099 := i_nlt c_2
                  have k_1100 : (8 : Int32).toInt = 8 := by decide
                  have q_1101 := i_nlt c_626
                  have k_1102 : (12 : Int32).toInt = 12 := by decide
                  have q_1103 := i_nlt c_938
                  have k_1104 : (16 : Int32).toInt = 16 := by decide
                  have q_1105 := i_lt c_1094
                  refine vin ?_ ?_
                  all_goals (try generalize Int32.toInt (12 : Int32) = z0 at *; try generalize Int32.toInt (16 : Int32) = z1 at *; try generalize Int32.toInt (20 : Int32) = z2 at *; try generalize Int32.toInt lz = z3 at *; try generalize Int32.toInt tl = z4 at *; try generalize Int32.toInt (4 : Int32) = z5 at *; try generalize Int32.toInt (8 : Int32) = z6 at *; try generalize Int32.toInt k = z7 at *; omega)
                refine va_bast hx hb hG.1 hP hD hS 1 0 rfl rfl b_1095 dX9_feed_96 (fun H locs hP hD hS => ?_)
                have hP : va_P (dC, dI) vwCl [(h0, .inr (9, [.int 0, .ref a0, .ref a1, .ref a2, .int dc, .ref a3, .int lz, .ref a4, .int xl, .int fo, .int fa, .ref a5, .int mn, .ref a6, .int ft, .ref a7, .int wl])), (a3, .inl (cB, 3000, .inl (upd tz lz.toNatClampNeg (vp_nar .byte (((wd >>> ((24 - (8 * (k &&& 3))) &&& 31)) : Int32).toInt8.toInt32)))))] H := hP
                have hD : va_D A [(h0, .inr (9, [.int 0, .ref a0, .ref a1, .ref a2, .int dc, .ref a3, .int lz, .ref a4, .int xl, .int fo, .int fa, .ref a5, .int mn, .ref a6, .int ft, .ref a7, .int wl])), (a3, .inl (cB, 3000, .inl (upd tz lz.toNatClampNeg (vp_nar .byte (((wd >>> ((24 - (8 * (k &&& 3))) &&& 31)) : Int32).toInt8.toInt32)))))] := hD
                refine lv_aload_n hx hb dX9_feed_97 rfl (lv_at hl 1 rfl) ?_
                refine lv_dup hx hb dX9_feed_98 rfl ?_
                refine va_get (D := (dC, dI)) (ci := 9) (v := .int lz) (C := RX9) (T := TX9) (N := 17) hx hb hts inc_X9_feed_9 hown hG.1 hP 0 rfl rfl 6 (by decide) (hts (.fieldLink RX9 30 "MappingDeskModel" "tapeLen" "I") (by decide +kernel)) (fun _ h9 => h9) rfl dX9_feed_99 ?_
                refine lv_iconst (v := 1) hx hb dX9_feed_102 (by decide) ?_
                refine lv_iadd hx hb dX9_feed_103 ?_
                refine va_put (D := (dC, dI)) (ci := 9) (v := .int (lz + 1)) (ty := .int) (C := RX9) (T := TX9) (N := 17) hx hb hts inc_X9_feed_9 tyX9 tyX9_ok nmX9 hown hG.1 hP hD hS 0 rfl rfl 6 (by decide) (hts (.fieldLink RX9 30 "MappingDeskModel" "tapeLen" "I") (by decide +kernel)) (fun _ h9 => h9) rfl (by decide +kernel) rfl rfl (Nat.le_of_ble_eq_true rfl) dX9_feed_104 (fun H locs hP hD hS => ?_)
                have hP : va_P (dC, dI) vwCl [(h0, .inr (9, [.int 0, .ref a0, .ref a1, .ref a2, .int dc, .ref a3, .int (lz + 1), .ref a4, .int xl, .int fo, .int fa, .ref a5, .int mn, .ref a6, .int ft, .ref a7, .int wl])), (a3, .inl (cB, 3000, .inl (upd tz lz.toNatClampNeg (vp_nar .byte (((wd >>> ((24 - (8 * (k &&& 3))) &&& 31)) : Int32).toInt8.toInt32)))))] H := hP
                have hD : va_D A [(h0, .inr (9, [.int 0, .ref a0, .ref a1, .ref a2, .int dc, .ref a3, .int (lz + 1), .ref a4, .int xl, .int fo, .int fa, .ref a5, .int mn, .ref a6, .int ft, .ref a7, .int wl])), (a3, .inl (cB, 3000, .inl (upd tz lz.toNatClampNeg (vp_nar .byte (((wd >>> ((24 - (8 * (k &&& 3))) &&& 31)) : Int32).toInt8.toInt32)))))] := hD
                refine lv_iinc (v := (k + 1)) (lv' := [(6, .int (k + 1)), (7, .int wd), (0, .ref h0), (1, .int wa), (2, .int wb), (3, .int wc), (4, .int wd), (5, .int we)]) hx hb dX9_feed_107 hl (k := 7) rfl rfl (by decide) rfl (fun ls hl => ?_)
                refine lv_goto (tgt := 23) hx hb dX9_feed_110 (by decide) ?_
                have v_1118 : 0 ≤ ((k + 1)).toInt := by
                  have k_1119 : (20 : Int32).toInt = 20 := by decide
                  have q_1120 := i_nle c_1
                  have k_1121 : (4 : Int32).toInt = 4 := by decide
                  have q_1122 := i_nlt c_2
                  have k_1123 : (8 : Int32).toInt = 8 := by decide
                  have q_1124 := i_nlt c_626
                  have k_1125 : (12 : Int32).toInt = 12 := by decide
                  have q_1126 := i_nlt c_938
                  have k_1127 : (16 : Int32).toInt = 16 := by decide
                  have q_1128 := i_lt c_1094
                  have k_1129 : (1 : Int32).toInt = 1 := by decide
                  have t_1130 := ti_add (a := k) (b := 1) (by omega) (by omega)
                  try generalize Int32.toInt (k + 1) = z0 at *
                  try generalize Int32.toInt (12 : Int32) = z1 at *
                  try generalize Int32.toInt (16 : Int32) = z2 at *
                  try generalize Int32.toInt (20 : Int32) = z3 at *
                  try generalize Int32.toInt lz = z4 at *
                  try generalize Int32.toInt tl = z5 at *
                  try generalize Int32.toInt (1 : Int32) = z6 at *
                  try generalize Int32.toInt (4 : Int32) = z7 at *
                  try generalize Int32.toInt (8 : Int32) = z8 at *
                  try generalize Int32.toInt k = z9 at *
                  omega
                have v_1131 : ((k + 1)).toInt ≤ 20 := by
                  have k_1132 : (20 : Int32).toInt = 20 := by decide
                  have q_1133 := i_nle c_1
                  have k_1134 : (4 : Int32).toInt = 4 := by decide
                  have q_1135 := i_nlt c_2
                  have k_1136 : (8 : Int32).toInt = 8 := by decide
                  have q_1137 := i_nlt c_626
                  have k_1138 : (12 : Int32).toInt = 12 := by decide
                  have q_1139 := i_nlt c_938
                  have k_1140 : (16 : Int32).toInt = 16 := by decide
                  have q_1141 := i_lt c_1094
                  have k_1142 : (1 : Int32).toInt = 1 := by decide
                  have t_1143 := ti_add (a := k) (b := 1) (by omega) (by omega)
                  try generalize Int32.toInt (k + 1) = z0 at *
                  try generalize Int32.toInt (12 : Int32) = z1 at *
                  try generalize Int32.toInt (16 : Int32) = z2 at *
                  try generalize Int32.toInt (20 : Int32) = z3 at *
                  try generalize Int32.toInt lz = z4 at *
                  try generalize Int32.toInt tl = z5 at *
                  try generalize Int32.toInt (1 : Int32) = z6 at *
                  try generalize Int32.toInt (4 : Int32) = z7 at *
                  try generalize Int32.toInt (8 : Int32) = z8 at *
                  try generalize Int32.toInt k = z9 at *
                  omega
                have v_1144 : ((lz + 1)).toInt = tl.toInt + ((k + 1)).toInt := by
                  have k_1145 : (20 : Int32).toInt = 20 := by decide
                  have q_1146 := i_nle c_1
                  have k_1147 : (4 : Int32).toInt = 4 := by decide
                  have q_1148 := i_nlt c_2
                  have k_1149 : (8 : Int32).toInt = 8 := by decide
                  have q_1150 := i_nlt c_626
                  have k_1151 : (12 : Int32).toInt = 12 := by decide
                  have q_1152 := i_nlt c_938
                  have k_1153 : (16 : Int32).toInt = 16 := by decide
                  have q_1154 := i_lt c_1094
                  have k_1155 : (1 : Int32).toInt = 1 := by decide
                  have t_1156 := ti_add (a := k) (b := 1) (by omega) (by omega)
                  have t_1157 := ti_add (a := lz) (b := 1) (by omega) (by omega)
                  try generalize Int32.toInt (lz + 1) = z0 at *
                  try generalize Int32.toInt (k + 1) = z1 at *
                  try generalize Int32.toInt (12 : Int32) = z2 at *
                  try generalize Int32.toInt (16 : Int32) = z3 at *
                  try generalize Int32.toInt (20 : Int32) = z4 at *
                  try generalize Int32.toInt lz = z5 at *
                  try generalize Int32.toInt tl = z6 at *
                  try generalize Int32.toInt (1 : Int32) = z7 at *
                  try generalize Int32.toInt (4 : Int32) = z8 at *
                  try generalize Int32.toInt (8 : Int32) = z9 at *
                  try generalize Int32.toInt k = z10 at *
                  omega
                have v_1158 : tl.toInt ≤ 2980 := by
                  first | exact hroom | assumption
                have v_1159 : 20 - ((k + 1)).toInt < ((n : Nat) : Int) := by
                  have k_1160 : (20 : Int32).toInt = 20 := by decide
                  have q_1161 := i_nle c_1
                  have k_1162 : (4 : Int32).toInt = 4 := by decide
                  have q_1163 := i_nlt c_2
                  have k_1164 : (8 : Int32).toInt = 8 := by decide
                  have q_1165 := i_nlt c_626
                  have k_1166 : (12 : Int32).toInt = 12 := by decide
                  have q_1167 := i_nlt c_938
                  have k_1168 : (16 : Int32).toInt = 16 := by decide
                  have q_1169 := i_lt c_1094
                  have k_1170 : (1 : Int32).toInt = 1 := by decide
                  have t_1171 := ti_add (a := k) (b := 1) (by omega) (by omega)
                  try generalize Int32.toInt (k + 1) = z0 at *
                  try generalize Int32.toInt (12 : Int32) = z1 at *
                  try generalize Int32.toInt (16 : Int32) = z2 at *
                  try generalize Int32.toInt (20 : Int32) = z3 at *
                  try generalize Int32.toInt lz = z4 at *
                  try generalize Int32.toInt tl = z5 at *
                  try generalize Int32.toInt (1 : Int32) = z6 at *
                  try generalize Int32.toInt (4 : Int32) = z7 at *
                  try generalize Int32.toInt (8 : Int32) = z8 at *
                  try generalize Int32.toInt k = z9 at *
                  omega
                exact ih ((k + 1)) ((upd tz lz.toNatClampNeg (vp_nar .byte (((wd >>> ((24 - (8 * (k &&& 3))) &&& 31)) : Int32).toInt8.toInt32)))) ((lz + 1)) _ _ ls hR v_1118 v_1131 v_1144 v_1158 v_1159 hP hD hS (lv_sub hl [2, 3, 4, 5, 6, 7, 0] rfl)
              · rw [if_neg c_1094] at hR
                refine lv_iload hx hb dX9_feed_70 (lv_at hl 6 rfl) ?_
                refine lv_istore (lv' := [(7, .int we), (0, .ref h0), (1, .int wa), (2, .int wb), (3, .int wc), (4, .int wd), (5, .int we), (6, .int k)]) hx hb dX9_feed_72 hl (by decide) rfl (fun ls hl => ?_)
                refine lv_aload_n hx hb dX9_feed_74 rfl (lv_at hl 1 rfl) ?_
                refine va_get (D := (dC, dI)) (ci := 9) (v := .ref a3) (C := RX9) (T := TX9) (N := 17) hx hb hts inc_X9_feed_9 hown hG.1 hP 0 rfl rfl 5 (by decide) (hts (.fieldLink RX9 26 "MappingDeskModel" "tape" "[B") (by decide +kernel)) (fun _ h9 => h9) rfl dX9_feed_75 ?_
                refine lv_aload_n hx hb dX9_feed_78 rfl (lv_at hl 1 rfl) ?_
                refine va_get (D := (dC, dI)) (ci := 9) (v := .int lz) (C := RX9) (T := TX9) (N := 17) hx hb hts inc_X9_feed_9 hown hG.1 hP 0 rfl rfl 6 (by decide) (hts (.fieldLink RX9 30 "MappingDeskModel" "tapeLen" "I") (by decide +kernel)) (fun _ h9 => h9) rfl dX9_feed_79 ?_
                refine lv_iload hx hb dX9_feed_82 (lv_at hl 0 rfl) ?_
                refine lv_bipush (v := 24) hx hb dX9_feed_84 (by decide) ?_
                refine lv_bipush (v := 8) hx hb dX9_feed_86 (by decide) ?_
                refine lv_iload hx hb dX9_feed_88 (lv_at hl 7 rfl) ?_
                refine lv_iconst (v := 3) hx hb dX9_feed_90 (by decide) ?_
                refine lv_iand hx hb dX9_feed_91 ?_
                refine lv_imul hx hb dX9_feed_92 ?_
                refine lv_isub hx hb dX9_feed_93 ?_
                refine lv_ishr hx hb dX9_feed_94 ?_
                refine lv_i2b hx hb dX9_feed_95 rfl ?_
                have b_1172 : vp_in lz 3000 := by
                  have k_1173 : (20 : Int32).toInt = 20 := by decide
                  have q_1174 := i_nle c_1
                  have k_1175 : (4 : Int32).toInt = 4 := by decide
                  have q_1176 := i_nlt c_2
                  have k_1177 : (8 : Int32).toInt = 8 := by decide
                  have q_1178 := i_nlt c_626
                  have k_1179 : (12 : Int32).toInt = 12 := by decide
                  have q_1180 := i_nlt c_938
                  have k_1181 : (16 : Int32).toInt = 16 := by decide
                  have q_1182 := i_nlt c_1094
                  refine vin ?_ ?_
                  all_goals (try generalize Int32.toInt (12 : Int32) = z0 at *; try generalize Int32.toInt (16 : Int32) = z1 at *; try generalize Int32.toInt (20 : Int32) = z2 at *; try generalize Int32.toInt lz = z3 at *; try generalize Int32.toInt tl = z4 at *; try generalize Int32.toInt (4 : Int32) = z5 at *; try generalize Int32.toInt (8 : Int32) = z6 at *; try generalize Int32.toInt k = z7 at *; omega)
                refine va_bast hx hb hG.1 hP hD hS 1 0 rfl rfl b_1172 dX9_feed_96 (fun H locs hP hD hS => ?_)
                have hP : va_P (dC, dI) vwCl [(h0, .inr (9, [.int 0, .ref a0, .ref a1, .ref a2, .int dc, .ref a3, .int lz, .ref a4, .int xl, .int fo, .int fa, .ref a5, .int mn, .ref a6, .int ft, .ref a7, .int wl])), (a3, .inl (cB, 3000, .inl (upd tz lz.toNatClampNeg (vp_nar .byte (((we >>> ((24 - (8 * (k &&& 3))) &&& 31)) : Int32).toInt8.toInt32)))))] H := hP
                have hD : va_D A [(h0, .inr (9, [.int 0, .ref a0, .ref a1, .ref a2, .int dc, .ref a3, .int lz, .ref a4, .int xl, .int fo, .int fa, .ref a5, .int mn, .ref a6, .int ft, .ref a7, .int wl])), (a3, .inl (cB, 3000, .inl (upd tz lz.toNatClampNeg (vp_nar .byte (((we >>> ((24 - (8 * (k &&& 3))) &&& 31)) : Int32).toInt8.toInt32)))))] := hD
                refine lv_aload_n hx hb dX9_feed_97 rfl (lv_at hl 1 rfl) ?_
                refine lv_dup hx hb dX9_feed_98 rfl ?_
                refine va_get (D := (dC, dI)) (ci := 9) (v := .int lz) (C := RX9) (T := TX9) (N := 17) hx hb hts inc_X9_feed_9 hown hG.1 hP 0 rfl rfl 6 (by decide) (hts (.fieldLink RX9 30 "MappingDeskModel" "tapeLen" "I") (by decide +kernel)) (fun _ h9 => h9) rfl dX9_feed_99 ?_
                refine lv_iconst (v := 1) hx hb dX9_feed_102 (by decide) ?_
                refine lv_iadd hx hb dX9_feed_103 ?_
                refine va_put (D := (dC, dI)) (ci := 9) (v := .int (lz + 1)) (ty := .int) (C := RX9) (T := TX9) (N := 17) hx hb hts inc_X9_feed_9 tyX9 tyX9_ok nmX9 hown hG.1 hP hD hS 0 rfl rfl 6 (by decide) (hts (.fieldLink RX9 30 "MappingDeskModel" "tapeLen" "I") (by decide +kernel)) (fun _ h9 => h9) rfl (by decide +kernel) rfl rfl (Nat.le_of_ble_eq_true rfl) dX9_feed_104 (fun H locs hP hD hS => ?_)
                have hP : va_P (dC, dI) vwCl [(h0, .inr (9, [.int 0, .ref a0, .ref a1, .ref a2, .int dc, .ref a3, .int (lz + 1), .ref a4, .int xl, .int fo, .int fa, .ref a5, .int mn, .ref a6, .int ft, .ref a7, .int wl])), (a3, .inl (cB, 3000, .inl (upd tz lz.toNatClampNeg (vp_nar .byte (((we >>> ((24 - (8 * (k &&& 3))) &&& 31)) : Int32).toInt8.toInt32)))))] H := hP
                have hD : va_D A [(h0, .inr (9, [.int 0, .ref a0, .ref a1, .ref a2, .int dc, .ref a3, .int (lz + 1), .ref a4, .int xl, .int fo, .int fa, .ref a5, .int mn, .ref a6, .int ft, .ref a7, .int wl])), (a3, .inl (cB, 3000, .inl (upd tz lz.toNatClampNeg (vp_nar .byte (((we >>> ((24 - (8 * (k &&& 3))) &&& 31)) : Int32).toInt8.toInt32)))))] := hD
                refine lv_iinc (v := (k + 1)) (lv' := [(6, .int (k + 1)), (7, .int we), (0, .ref h0), (1, .int wa), (2, .int wb), (3, .int wc), (4, .int wd), (5, .int we)]) hx hb dX9_feed_107 hl (k := 7) rfl rfl (by decide) rfl (fun ls hl => ?_)
                refine lv_goto (tgt := 23) hx hb dX9_feed_110 (by decide) ?_
                have v_1195 : 0 ≤ ((k + 1)).toInt := by
                  have k_1196 : (20 : Int32).toInt = 20 := by decide
                  have q_1197 := i_nle c_1
                  have k_1198 : (4 : Int32).toInt = 4 := by decide
                  have q_1199 := i_nlt c_2
                  have k_1200 : (8 : Int32).toInt = 8 := by decide
                  have q_1201 := i_nlt c_626
                  have k_1202 : (12 : Int32).toInt = 12 := by decide
                  have q_1203 := i_nlt c_938
                  have k_1204 : (16 : Int32).toInt = 16 := by decide
                  have q_1205 := i_nlt c_1094
                  have k_1206 : (1 : Int32).toInt = 1 := by decide
                  have t_1207 := ti_add (a := k) (b := 1) (by omega) (by omega)
                  try generalize Int32.toInt (k + 1) = z0 at *
                  try generalize Int32.toInt (12 : Int32) = z1 at *
                  try generalize Int32.toInt (16 : Int32) = z2 at *
                  try generalize Int32.toInt (20 : Int32) = z3 at *
                  try generalize Int32.toInt lz = z4 at *
                  try generalize Int32.toInt tl = z5 at *
                  try generalize Int32.toInt (1 : Int32) = z6 at *
                  try generalize Int32.toInt (4 : Int32) = z7 at *
                  try generalize Int32.toInt (8 : Int32) = z8 at *
                  try generalize Int32.toInt k = z9 at *
                  omega
                have v_1208 : ((k + 1)).toInt ≤ 20 := by
                  have k_1209 : (20 : Int32).toInt = 20 := by decide
                  have q_1210 := i_nle c_1
                  have k_1211 : (4 : Int32).toInt = 4 := by decide
                  have q_1212 := i_nlt c_2
                  have k_1213 : (8 : Int32).toInt = 8 := by decide
                  have q_1214 := i_nlt c_626
                  have k_1215 : (12 : Int32).toInt = 12 := by decide
                  have q_1216 := i_nlt c_938
                  have k_1217 : (16 : Int32).toInt = 16 := by decide
                  have q_1218 := i_nlt c_1094
                  have k_1219 : (1 : Int32).toInt = 1 := by decide
                  have t_1220 := ti_add (a := k) (b := 1) (by omega) (by omega)
                  try generalize Int32.toInt (k + 1) = z0 at *
                  try generalize Int32.toInt (12 : Int32) = z1 at *
                  try generalize Int32.toInt (16 : Int32) = z2 at *
                  try generalize Int32.toInt (20 : Int32) = z3 at *
                  try generalize Int32.toInt lz = z4 at *
                  try generalize Int32.toInt tl = z5 at *
                  try generalize Int32.toInt (1 : Int32) = z6 at *
                  try generalize Int32.toInt (4 : Int32) = z7 at *
                  try generalize Int32.toInt (8 : Int32) = z8 at *
                  try generalize Int32.toInt k = z9 at *
                  omega
                have v_1221 : ((lz + 1)).toInt = tl.toInt + ((k + 1)).toInt := by
                  have k_1222 : (20 : Int32).toInt = 20 := by decide
                  have q_1223 := i_nle c_1
                  have k_1224 : (4 : Int32).toInt = 4 := by decide
                  have q_1225 := i_nlt c_2
                  have k_1226 : (8 : Int32).toInt = 8 := by decide
                  have q_1227 := i_nlt c_626
                  have k_1228 : (12 : Int32).toInt = 12 := by decide
                  have q_1229 := i_nlt c_938
                  have k_1230 : (16 : Int32).toInt = 16 := by decide
                  have q_1231 := i_nlt c_1094
                  have k_1232 : (1 : Int32).toInt = 1 := by decide
                  have t_1233 := ti_add (a := k) (b := 1) (by omega) (by omega)
                  have t_1234 := ti_add (a := lz) (b := 1) (by omega) (by omega)
                  try generalize Int32.toInt (lz + 1) = z0 at *
                  try generalize Int32.toInt (k + 1) = z1 at *
                  try generalize Int32.toInt (12 : Int32) = z2 at *
                  try generalize Int32.toInt (16 : Int32) = z3 at *
                  try generalize Int32.toInt (20 : Int32) = z4 at *
                  try generalize Int32.toInt lz = z5 at *
                  try generalize Int32.toInt tl = z6 at *
                  try generalize Int32.toInt (1 : Int32) = z7 at *
                  try generalize Int32.toInt (4 : Int32) = z8 at *
                  try generalize Int32.toInt (8 : Int32) = z9 at *
                  try generalize Int32.toInt k = z10 at *
                  omega
                have v_1235 : tl.toInt ≤ 2980 := by
                  first | exact hroom | assumption
                have v_1236 : 20 - ((k + 1)).toInt < ((n : Nat) : Int) := by
                  have k_1237 : (20 : Int32).toInt = 20 := by decide
                  have q_1238 := i_nle c_1
                  have k_1239 : (4 : Int32).toInt = 4 := by decide
                  have q_1240 := i_nlt c_2
                  have k_1241 : (8 : Int32).toInt = 8 := by decide
                  have q_1242 := i_nlt c_626
                  have k_1243 : (12 : Int32).toInt = 12 := by decide
                  have q_1244 := i_nlt c_938
                  have k_1245 : (16 : Int32).toInt = 16 := by decide
                  have q_1246 := i_nlt c_1094
                  have k_1247 : (1 : Int32).toInt = 1 := by decide
                  have t_1248 := ti_add (a := k) (b := 1) (by omega) (by omega)
                  try generalize Int32.toInt (k + 1) = z0 at *
                  try generalize Int32.toInt (12 : Int32) = z1 at *
                  try generalize Int32.toInt (16 : Int32) = z2 at *
                  try generalize Int32.toInt (20 : Int32) = z3 at *
                  try generalize Int32.toInt lz = z4 at *
                  try generalize Int32.toInt tl = z5 at *
                  try generalize Int32.toInt (1 : Int32) = z6 at *
                  try generalize Int32.toInt (4 : Int32) = z7 at *
                  try generalize Int32.toInt (8 : Int32) = z8 at *
                  try generalize Int32.toInt k = z9 at *
                  omega
                exact ih ((k + 1)) ((upd tz lz.toNatClampNeg (vp_nar .byte (((we >>> ((24 - (8 * (k &&& 3))) &&& 31)) : Int32).toInt8.toInt32)))) ((lz + 1)) _ _ ls hR v_1195 v_1208 v_1221 v_1235 v_1236 hP hD hS (lv_sub hl [2, 3, 4, 5, 6, 7, 0] rfl)
  refine lv_aload_n hx hb dX9_feed_0 rfl (lv_at hl 0 rfl) ?_
  refine lv_iconst (v := 0) hx hb dX9_feed_1 (by decide) ?_
  refine va_put (D := (dC, dI)) (ci := 9) (v := .int 0) (ty := .int) (C := RX9) (T := TX9) (N := 17) hx hb hts inc_X9_feed_9 tyX9 tyX9_ok nmX9 hown hG.1 hP hD hS 0 rfl rfl 0 (by decide) (hts (.fieldLink RX9 7 "MappingDeskModel" "thrownCode" "I") (by decide +kernel)) (fun _ h9 => h9) rfl (by decide +kernel) rfl rfl (Nat.le_of_ble_eq_true rfl) dX9_feed_2 (fun H locs hP hD hS => ?_)
  have hP : va_P (dC, dI) vwCl [(h0, .inr (9, [.int 0, .ref a0, .ref a1, .ref a2, .int dc, .ref a3, .int tl, .ref a4, .int xl, .int fo, .int fa, .ref a5, .int mn, .ref a6, .int ft, .ref a7, .int wl])), (a3, .inl (cB, 3000, .inl tp))] H := hP
  have hD : va_D A [(h0, .inr (9, [.int 0, .ref a0, .ref a1, .ref a2, .int dc, .ref a3, .int tl, .ref a4, .int xl, .int fo, .int fa, .ref a5, .int mn, .ref a6, .int ft, .ref a7, .int wl])), (a3, .inl (cB, 3000, .inl tp))] := hD
  refine lv_aload_n hx hb dX9_feed_5 rfl (lv_at hl 0 rfl) ?_
  refine va_get (D := (dC, dI)) (ci := 9) (v := .int tl) (C := RX9) (T := TX9) (N := 17) hx hb hts inc_X9_feed_9 hown hG.1 hP 0 rfl rfl 6 (by decide) (hts (.fieldLink RX9 30 "MappingDeskModel" "tapeLen" "I") (by decide +kernel)) (fun _ h9 => h9) rfl dX9_feed_6 ?_
  refine lv_bipush (v := 20) hx hb dX9_feed_9 (by decide) ?_
  refine lv_iadd hx hb dX9_feed_11 ?_
  refine lv_sipush (v := 3000) hx hb dX9_feed_12 (by decide) ?_
  refine lv_icmp_le (tgt := 20) hx hb dX9_feed_15 (by decide) (fun c_1249 => ?_) (fun c_1249 => ?_)
  · rw [if_pos c_1249] at hR
    refine lv_iconst (v := 0) hx hb dX9_feed_20 (by decide) ?_
    refine lv_istore (lv' := [(6, .int 0), (0, .ref h0), (1, .int wa), (2, .int wb), (3, .int wc), (4, .int wd), (5, .int we)]) hx hb dX9_feed_21 hl (by decide) rfl (fun ls hl => ?_)
    have v_1254 : 0 ≤ (0 : Int32).toInt := by
      have k_1255 : (20 : Int32).toInt = 20 := by decide
      have t_1256 := ti_add (a := tl) (b := 20) (by omega) (by omega)
      have k_1257 : (3000 : Int32).toInt = 3000 := by decide
      have q_1258 := i_le c_1249
      have k_1259 : (0 : Int32).toInt = 0 := by decide
      try generalize Int32.toInt (tl + 20) = z0 at *
      try generalize Int32.toInt (3000 : Int32) = z1 at *
      try generalize Int32.toInt (20 : Int32) = z2 at *
      try generalize Int32.toInt tl = z3 at *
      try generalize Int32.toInt (0 : Int32) = z4 at *
      omega
    have v_1260 : (0 : Int32).toInt ≤ 20 := by
      have k_1261 : (20 : Int32).toInt = 20 := by decide
      have t_1262 := ti_add (a := tl) (b := 20) (by omega) (by omega)
      have k_1263 : (3000 : Int32).toInt = 3000 := by decide
      have q_1264 := i_le c_1249
      have k_1265 : (0 : Int32).toInt = 0 := by decide
      try generalize Int32.toInt (tl + 20) = z0 at *
      try generalize Int32.toInt (3000 : Int32) = z1 at *
      try generalize Int32.toInt (20 : Int32) = z2 at *
      try generalize Int32.toInt tl = z3 at *
      try generalize Int32.toInt (0 : Int32) = z4 at *
      omega
    have v_1266 : tl.toInt = tl.toInt + (0 : Int32).toInt := by
      have k_1267 : (20 : Int32).toInt = 20 := by decide
      have t_1268 := ti_add (a := tl) (b := 20) (by omega) (by omega)
      have k_1269 : (3000 : Int32).toInt = 3000 := by decide
      have q_1270 := i_le c_1249
      have k_1271 : (0 : Int32).toInt = 0 := by decide
      try generalize Int32.toInt (tl + 20) = z0 at *
      try generalize Int32.toInt (3000 : Int32) = z1 at *
      try generalize Int32.toInt (20 : Int32) = z2 at *
      try generalize Int32.toInt tl = z3 at *
      try generalize Int32.toInt (0 : Int32) = z4 at *
      omega
    have v_1272 : tl.toInt ≤ 2980 := by
      have k_1273 : (20 : Int32).toInt = 20 := by decide
      have t_1274 := ti_add (a := tl) (b := 20) (by omega) (by omega)
      have k_1275 : (3000 : Int32).toInt = 3000 := by decide
      have q_1276 := i_le c_1249
      try generalize Int32.toInt (tl + 20) = z0 at *
      try generalize Int32.toInt (3000 : Int32) = z1 at *
      try generalize Int32.toInt (20 : Int32) = z2 at *
      try generalize Int32.toInt tl = z3 at *
      omega
    have v_1277 : 20 - (0 : Int32).toInt < ((21 : Nat) : Int) := by
      have k_1278 : (20 : Int32).toInt = 20 := by decide
      have t_1279 := ti_add (a := tl) (b := 20) (by omega) (by omega)
      have k_1280 : (3000 : Int32).toInt = 3000 := by decide
      have q_1281 := i_le c_1249
      have k_1282 : (0 : Int32).toInt = 0 := by decide
      try generalize Int32.toInt (tl + 20) = z0 at *
      try generalize Int32.toInt (3000 : Int32) = z1 at *
      try generalize Int32.toInt (20 : Int32) = z2 at *
      try generalize Int32.toInt tl = z3 at *
      try generalize Int32.toInt (0 : Int32) = z4 at *
      omega
    exact loop_23 21 (0) (tp) (tl) _ _ ls hR v_1254 v_1260 v_1266 v_1272 v_1277 hP hD hS (lv_sub hl [1, 2, 3, 4, 5, 6, 0] rfl)
  · rw [if_neg c_1249] at hR
    refine lv_iconst (v := 0) hx hb dX9_feed_18 (by decide) ?_
    subst hR
    exact W.zret (v := 0) hx hb hr rfl (fun t ht hW => ⟨⟨0, (), rfl, rfl, by rw [ht]; exact hP, hD⟩, hS.F ht⟩) hS.2.2 dX9_feed_19
