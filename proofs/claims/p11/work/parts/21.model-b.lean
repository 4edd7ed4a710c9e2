def fX9_number_14 (th dc tl xl fo fa mn ft wl : Int32) (tp : Nat → Int32) (nu : Nat → Int64) (x nn : Int32) : Nat → Int64 → Int32 → Int32 → Int32 → Int32 → Int32 × Int32 × Int32 × Int32 × (Nat → Int64)
  | 0, _, _, _, _, _ => (0, 0, 0, 0, (fun _ => 0))
  | n + 1, v, sh, be, pp, mo =>
    if mo = 0 then
      if be = 0 then
        if (lg_cmp ((v : Int64) >>> ((1 : Int32).toInt64 &&& 63)) 2147483647) ≤ 0 then
          if 6 ≤ mn then
            (pp, fo, fa, (mn + 1), nu)
          else
            if (lg_cmp (v &&& 1) 1) = 0 then
              (pp, fo, fa, (mn + 1), (vp_updL nu mn.toNatClampNeg (-((v : Int64) >>> ((1 : Int32).toInt64 &&& 63)))))
            else
              (pp, fo, fa, (mn + 1), (vp_updL nu mn.toNatClampNeg ((v : Int64) >>> ((1 : Int32).toInt64 &&& 63))))
        else
          bnd (fX9_fails th dc tl xl fo fa mn ft wl 2 x) fun r_74 =>
          ((-1), r_74.2.1, r_74.2.2, mn, nu)
      else
        bnd (fX9_fails th dc tl xl fo fa mn ft wl 2 x) fun r_3 =>
        ((-1), r_3.2.1, r_3.2.2, mn, nu)
    else
      if pp = nn then
        bnd (fX9_fails th dc tl xl fo fa mn ft wl 2 pp) fun r_85 =>
        ((-1), r_85.2.1, r_85.2.2, mn, nu)
      else
        if (tp pp.toNatClampNeg) = 44 then
          bnd (fX9_fails th dc tl xl fo fa mn ft wl 2 pp) fun r_102 =>
          ((-1), r_102.2.1, r_102.2.2, mn, nu)
        else
          if (tp pp.toNatClampNeg) = 59 then
            bnd (fX9_fails th dc tl xl fo fa mn ft wl 2 pp) fun r_1038 =>
            ((-1), r_1038.2.1, r_1038.2.2, mn, nu)
          else
            bnd (fX9_worth (tp pp.toNatClampNeg)) fun r_135 =>
            if 0 ≤ r_135 then
              if 35 ≤ sh then
                if be = 0 then
                  if (lg_cmp (((r_135 &&& 31) : Int32).toInt64) 0) = 0 then
                    if r_135 ≤ 31 then
                      fX9_number_14 th dc tl xl fo fa mn ft wl tp nu x nn n v (sh + 5) 0 (pp + 1) 0
                    else
                      fX9_number_14 th dc tl xl fo fa mn ft wl tp nu x nn n v (sh + 5) 0 (pp + 1) 1
                  else
                    if r_135 ≤ 31 then
                      fX9_number_14 th dc tl xl fo fa mn ft wl tp nu x nn n v (sh + 5) 1 (pp + 1) 0
                    else
                      fX9_number_14 th dc tl xl fo fa mn ft wl tp nu x nn n v (sh + 5) 1 (pp + 1) 1
                else
                  if r_135 ≤ 31 then
                    fX9_number_14 th dc tl xl fo fa mn ft wl tp nu x nn n v (sh + 5) 1 (pp + 1) 0
                  else
                    fX9_number_14 th dc tl xl fo fa mn ft wl tp nu x nn n v (sh + 5) 1 (pp + 1) 1
              else
                if r_135 ≤ 31 then
                  fX9_number_14 th dc tl xl fo fa mn ft wl tp nu x nn n (v ||| (((((r_135 &&& 31) : Int32).toInt64) : Int64) <<< ((sh : Int32).toInt64 &&& 63))) (sh + 5) be (pp + 1) 0
                else
                  fX9_number_14 th dc tl xl fo fa mn ft wl tp nu x nn n (v ||| (((((r_135 &&& 31) : Int32).toInt64) : Int64) <<< ((sh : Int32).toInt64 &&& 63))) (sh + 5) be (pp + 1) 1
            else
              bnd (fX9_fails th dc tl xl fo fa mn ft wl 1 pp) fun r_1018 =>
              ((-1), r_1018.2.1, r_1018.2.2, mn, nu)
def fX9_number (th dc tl xl fo fa mn ft wl : Int32) (tp : Nat → Int32) (nu : Nat → Int64) (x nn : Int32) : Int32 × Int32 × Int32 × Int32 × (Nat → Int64) :=
  fX9_number_14 th dc tl xl fo fa mn ft wl tp nu x nn 3002 0 0 0 x 1
theorem inc_X9_number_9 : ∀ w ∈ u_ws RX9 TX9 17, w ∈ wsX9_number := by decide +kernel
set_option maxHeartbeats 4000000 in
set_option maxRecDepth 100000 in
theorem c_X9_number (l : Launch) (dC : Nat → ClassId) (dI : Nat → Nat → Nat) (cB cC cI cJ : ClassId) (sz : Nat) (h0 a0 a1 a2 a3 a4 a5 a6 a7 : Nat) (th dc tl xl fo fa mn ft wl : Int32) (tp : Nat → Int32) (nu : Nat → Int64) (x nn : Int32) (hx0 : 0 ≤ x.toInt) (hx1 : x.toInt ≤ nn.toInt) (hn1 : nn.toInt ≤ 3000) (hm0 : 0 ≤ mn.toInt) (hm1 : mn.toInt ≤ 3000) : Met l yX9_number wsX9_number ({ frames := 1, cells := 0, slots := 0, locals := 22 } : Room) (cP dC dI cB cC cI cJ [.ref h0, .int x, .int nn] sz [(h0, .inr (9, [.int th, .ref a0, .ref a1, .ref a2, .int dc, .ref a3, .int tl, .ref a4, .int xl, .int fo, .int fa, .ref a5, .int mn, .ref a6, .int ft, .ref a7, .int wl])), (a3, .inl (cB, 3000, .inl tp)), (a5, .inl (cJ, 6, .inr (.inl nu)))]) (va_Qi (fun r _ => r = (fX9_number th dc tl xl fo fa mn ft wl tp nu x nn).1 ∧ ((fX9_number th dc tl xl fo fa mn ft wl tp nu x nn).1.toInt = -1 ∨ (x.toInt < (fX9_number th dc tl xl fo fa mn ft wl tp nu x nn).1.toInt ∧ (fX9_number th dc tl xl fo fa mn ft wl tp nu x nn).1.toInt ≤ nn.toInt)) ∧ (mn.toInt ≤ (fX9_number th dc tl xl fo fa mn ft wl tp nu x nn).2.2.2.1.toInt ∧ (fX9_number th dc tl xl fo fa mn ft wl tp nu x nn).2.2.2.1.toInt ≤ mn.toInt + 1)) (cE dC dI (va_A [(h0, .inr (9, [.int th, .ref a0, .ref a1, .ref a2, .int dc, .ref a3, .int tl, .ref a4, .int xl, .int fo, .int fa, .ref a5, .int mn, .ref a6, .int ft, .ref a7, .int wl])), (a3, .inl (cB, 3000, .inl tp)), (a5, .inl (cJ, 6, .inr (.inl nu)))] sz) [(h0, .inr (9, [.int th, .ref a0, .ref a1, .ref a2, .int dc, .ref a3, .int tl, .ref a4, .int xl, .int (fX9_number th dc tl xl fo fa mn ft wl tp nu x nn).2.1, .int (fX9_number th dc tl xl fo fa mn ft wl tp nu x nn).2.2.1, .ref a5, .int (fX9_number th dc tl xl fo fa mn ft wl tp nu x nn).2.2.2.1, .ref a6, .int ft, .ref a7, .int wl])), (a3, .inl (cB, 3000, .inl tp)), (a5, .inl (cJ, 6, .inr (.inl (fX9_number th dc tl xl fo fa mn ft wl tp nu x nn).2.2.2.2)))]) (va_A [(h0, .inr (9, [.int th, .ref a0, .ref a1, .ref a2, .int dc, .ref a3, .int tl, .ref a4, .int xl, .int fo, .int fa, .ref a5, .int mn, .ref a6, .int ft, .ref a7, .int wl])), (a3, .inl (cB, 3000, .inl tp)), (a5, .inl (cJ, 6, .inr (.inl nu)))] sz)) 0 0 (va_A [(h0, .inr (9, [.int th, .ref a0, .ref a1, .ref a2, .int dc, .ref a3, .int tl, .ref a4, .int xl, .int fo, .int fa, .ref a5, .int mn, .ref a6, .int ft, .ref a7, .int wl])), (a3, .inl (cB, 3000, .inl tp)), (a5, .inl (cJ, 6, .inr (.inl nu)))] sz) := by
  refine Met.ofW (cc := cX9_number) (maxL := 12) (ret := (some .int)) (by decide) rfl ?_
  intro p e s m args below meth c s₁ B hml hv
  obtain ⟨rfl, hsz, hP, hG, hD0⟩ := hv
  have hx := B.exec
  have hb := B.bytes
  have hr := B.returns
  have hts := atoms_spec (ws := wsX9_number) B.pre
  have hown : s.vm.findClass RX9 = some m.cls := findClass_of_methodNamed B.named
  have hlocks := B.notSynchronized
  subst hsz
  have hD := hD0.self (sz := s.heap.size)
  generalize hAe : va_A [(h0, .inr (9, [.int th, .ref a0, .ref a1, .ref a2, .int dc, .ref a3, .int tl, .ref a4, .int xl, .int fo, .int fa, .ref a5, .int mn, .ref a6, .int ft, .ref a7, .int wl])), (a3, .inl (cB, 3000, .inl tp)), (a5, .inl (cJ, 6, .inr (.inl nu)))] s.heap.size = A at hD ⊢
  have hA : ∀ q : Nat, s.heap.size ≤ q → A q := fun q h => by rw [← hAe]; exact Or.inr h
  obtain ⟨H, hH⟩ : ∃ H : Heap, H = s.heap := ⟨_, rfl⟩
  have hS : va_S A s.heap H [] := by rw [hH]; exact va_S.rf
  rw [← hH] at hP ⊢
  generalize hR : fX9_number th dc tl xl fo fa mn ft wl tp nu x nn = R
  unfold fX9_number at hR
  have hl := lv_entry ([.ref h0, .int x, .int nn]) (n := 12) (Nat.le_of_ble_eq_true rfl)
  rw [lg_entry_eq]
  generalize (lg_sl ([.ref h0, .int x, .int nn]) ++ List.replicate (12 - (lg_sl ([.ref h0, .int x, .int nn])).length) Slot.unset).toArray = ls at hl ⊢
  have hl : lv_has ls 12 [(0, .ref h0), (1, .int x), (2, .int nn)] := hl
  have loop_14 : ∀ (n : Nat), ∀ (v : Int64) (sh : Int32) (be : Int32) (pp : Int32) (mo : Int32) (H : Heap) (locs : List Loc) (ls : Array Slot), fX9_number_14 th dc tl xl fo fa mn ft wl tp nu x nn n v sh be pp mo = R → (x.toInt ≤ pp.toInt) → (pp.toInt ≤ nn.toInt) → (mo.toInt = 0 → x.toInt < pp.toInt) → (0 ≤ sh.toInt) → (sh.toInt ≤ 5 * (pp.toInt - x.toInt)) → (nn.toInt - pp.toInt + 1 < ((n : Nat) : Int)) → va_P (dC, dI) vwCl [(h0, .inr (9, [.int th, .ref a0, .ref a1, .ref a2, .int dc, .ref a3, .int tl, .ref a4, .int xl, .int fo, .int fa, .ref a5, .int mn, .ref a6, .int ft, .ref a7, .int wl])), (a3, .inl (cB, 3000, .inl tp)), (a5, .inl (cJ, 6, .inr (.inl nu)))] H → va_D A [(h0, .inr (9, [.int th, .ref a0, .ref a1, .ref a2, .int dc, .ref a3, .int tl, .ref a4, .int xl, .int fo, .int fa, .ref a5, .int mn, .ref a6, .int ft, .ref a7, .int wl])), (a3, .inl (cB, 3000, .inl tp)), (a5, .inl (cJ, 6, .inr (.inl nu)))] → va_S A s.heap H locs → lv_has ls 12 [(0, .ref h0), (1, .int x), (2, .int nn), (3, .long v), (5, .int sh), (6, .int be), (7, .int pp), (8, .int mo)] → W p l e (headSpec wsX9_number ({ frames := 1, cells := 0, slots := 0, locals := 22 } : Room)).room s m ([.ref h0, .int x, .int nn] : List Value).toArray below meth c H locs 0 0 (MQ below (va_Qi (fun r _ => r = R.1 ∧ (R.1.toInt = -1 ∨ (x.toInt < R.1.toInt ∧ R.1.toInt ≤ nn.toInt)) ∧ (mn.toInt ≤ R.2.2.2.1.toInt ∧ R.2.2.2.1.toInt ≤ mn.toInt + 1)) (cE dC dI (A) [(h0, .inr (9, [.int th, .ref a0, .ref a1, .ref a2, .int dc, .ref a3, .int tl, .ref a4, .int xl, .int R.2.1, .int R.2.2.1, .ref a5, .int R.2.2.2.1, .ref a6, .int ft, .ref a7, .int wl])), (a3, .inl (cB, 3000, .inl tp)), (a5, .inl (cJ, 6, .inr (.inl R.2.2.2.2)))]) (A)) ([.ref h0, .int x, .int nn] : List Value).toArray s 0 0 A) (F0 m 14 ls []) := by
    intro n
    induction n with
    | zero => intro v sh be pp mo H locs ls hR hp0 hp1 hmo hs0 hs1 hmu; exfalso; omega
    | succ n ih =>
      intro v sh be pp mo H locs ls hR hp0 hp1 hmo hs0 hs1 hmu hP hD hS hl
      rw [fX9_number_14] at hR
      refine lv_iload hx hb dX9_number_14 (lv_at hl 7 rfl) ?_
      refine lv_if_eq (tgt := 154) hx hb dX9_number_16 (by decide) (fun c_1 => ?_) (fun c_1 => ?_)
      · rw [if_pos c_1] at hR
        refine lv_iload hx hb dX9_number_154 (lv_at hl 5 rfl) ?_
        refine lv_if_ne (tgt := 169) hx hb dX9_number_156 (by decide) (fun c_2 => ?_) (fun c_2 => ?_)
        · rw [if_neg c_2] at hR
          refine lv_aload_n hx hb dX9_number_169 rfl (lv_at hl 0 rfl) ?_
          refine lv_iconst (v := 2) hx hb dX9_number_170 (by decide) ?_
          refine lv_iload_n hx hb dX9_number_171 rfl (lv_at hl 1 rfl) ?_
          have hPc := hP.sub (ws' := [(h0, .inr (9, [.int th, .ref a0, .ref a1, .ref a2, .int dc, .ref a3, .int tl, .ref a4, .int xl, .int fo, .int fa, .ref a5, .int mn, .ref a6, .int ft, .ref a7, .int wl]))]) [0] rfl
          have hDc := hD.sub (ws' := [(h0, .inr (9, [.int th, .ref a0, .ref a1, .ref a2, .int dc, .ref a3, .int tl, .ref a4, .int xl, .int fo, .int fa, .ref a5, .int mn, .ref a6, .int ft, .ref a7, .int wl]))]) [0] (by decide) rfl
          have hFc := va_free (wc := [(h0, .inr (9, [.int th, .ref a0, .ref a1, .ref a2, .int dc, .ref a3, .int tl, .ref a4, .int xl, .int fo, .int fa, .ref a5, .int mn, .ref a6, .int ft, .ref a7, .int wl]))]) hD hS hA [0] rfl
          refine va_calli (va_runV (As := [.int 2, .int x]) (rest := []) ⟨hx, hb, hml, hown, hts⟩ (c_X9_fails l dC dI cB cC cI cJ H.size h0 a0 a1 a2 a3 a4 a5 a6 a7 th dc tl xl fo fa mn ft wl 2 x ) (cwV 2 hts gX9_number_X9_fails rfl rfl rfl (by decide +kernel) ⟨(Nat.le_of_ble_eq_true rfl), (Nat.le_of_ble_eq_true rfl)⟩) ⟨cP_blind, va_recv hG.1 hPc (ci := 9) (q0 := 0) rfl rfl, cP_pre hPc hG hDc⟩ rfl rfl hl.1 rfl (lv_room (Nat.le_of_ble_eq_true rfl)) dX9_number_172 ⟨Nat.le_of_ble_eq_true rfl, Nat.le_of_ble_eq_true rfl⟩) hS (fun q _ h => hFc q h) hFc (fun r_3v u t H1 locs ht hvm hw hB hz1 hk1 hS => ?_)
          obtain ⟨hP1, hD1⟩ := hB
          rw [ht] at hP1
          generalize hr_3 : fX9_fails th dc tl xl fo fa mn ft wl 2 x = r_3 at hP1 hD1 hw
          obtain ⟨hw, er_3_0⟩ := hw
          rw [bnd_eq hr_3] at hR
          subst hw
          obtain ⟨hP, hD⟩ := va_join (wr := [(a3, .inl (cB, 3000, .inl tp)), (a5, .inl (cJ, 6, .inr (.inl nu)))]) (w1 := [(h0, .inr (9, [.int th, .ref a0, .ref a1, .ref a2, .int dc, .ref a3, .int tl, .ref a4, .int xl, .int r_3.2.1, .int r_3.2.2, .ref a5, .int mn, .ref a6, .int ft, .ref a7, .int wl]))]) hP hD [0] [1, 2] rfl rfl (by decide) (by decide) hk1 hFc hP1 hD1
          generalize H1 = H at hP hS ⊢
          have hP := hP.sub (ws' := [(h0, .inr (9, [.int th, .ref a0, .ref a1, .ref a2, .int dc, .ref a3, .int tl, .ref a4, .int xl, .int r_3.2.1, .int r_3.2.2, .ref a5, .int mn, .ref a6, .int ft, .ref a7, .int wl])), (a3, .inl (cB, 3000, .inl tp)), (a5, .inl (cJ, 6, .inr (.inl nu)))]) [2, 0, 1] rfl
          have hD := hD.sub (ws' := [(h0, .inr (9, [.int th, .ref a0, .ref a1, .ref a2, .int dc, .ref a3, .int tl, .ref a4, .int xl, .int r_3.2.1, .int r_3.2.2, .ref a5, .int mn, .ref a6, .int ft, .ref a7, .int wl])), (a3, .inl (cB, 3000, .inl tp)), (a5, .inl (cJ, 6, .inr (.inl nu)))]) [2, 0, 1] (by decide) rfl
          refine lv_pop hx hb dX9_number_175 rfl ?_
          refine lv_iconst (v := (-1)) hx hb dX9_number_176 (by decide) ?_
          have e_4 : ((-1) : Int32).toInt = -1 ∨ (x.toInt < ((-1) : Int32).toInt ∧ ((-1) : Int32).toInt ≤ nn.toInt) := by
            have k_5 : (0 : Int32).toInt = 0 := by decide
            have q_6 := i_eq c_1
            have q_7 := i_ne c_2
            have k_8 : ((-1) : Int32).toInt = -1 := by decide
            try generalize Int32.toInt ((-1) : Int32) = z0 at *
            try generalize Int32.toInt be = z1 at *
            try generalize Int32.toInt mn = z2 at *
            try generalize Int32.toInt mo = z3 at *
            try generalize Int32.toInt nn = z4 at *
            try generalize Int32.toInt pp = z5 at *
            try generalize Int32.toInt sh = z6 at *
            try generalize Int32.toInt (0 : Int32) = z7 at *
            try generalize Int32.toInt x = z8 at *
            omega
          have e_9 : mn.toInt ≤ (mn : Int32).toInt ∧ (mn : Int32).toInt ≤ mn.toInt + 1 := by
            have k_10 : (0 : Int32).toInt = 0 := by decide
            have q_11 := i_eq c_1
            have q_12 := i_ne c_2
            try generalize Int32.toInt be = z0 at *
            try generalize Int32.toInt mn = z1 at *
            try generalize Int32.toInt mo = z2 at *
            try generalize Int32.toInt nn = z3 at *
            try generalize Int32.toInt pp = z4 at *
            try generalize Int32.toInt sh = z5 at *
            try generalize Int32.toInt (0 : Int32) = z6 at *
            try generalize Int32.toInt x = z7 at *
            omega
          subst hR
          exact W.iret (v := (-1)) hx hb hr (fun t ht hW => ⟨⟨(-1), (), rfl, ⟨rfl, e_4, e_9⟩, by rw [ht]; exact hP, hD⟩, hS.F ht⟩) hS.2.2 dX9_number_177
        · rw [if_pos c_2] at hR
          refine lv_lload_n hx hb dX9_number_159 rfl (lv_at hl 3 rfl) ?_
          refine lv_iconst (v := 1) hx hb dX9_number_160 (by decide) ?_
          refine lv_lshr hx hb dX9_number_161 rfl ?_
          refine lv_ldc2 (v := 2147483647) hx hb hown (hts (.constantLong RX9 73 2147483647) (by decide +kernel)) dX9_number_162 ?_
          refine W.lcmp hx hb dX9_number_165 ?_
          refine lv_if_le (tgt := 178) hx hb dX9_number_166 (by decide) (fun c_13 => ?_) (fun c_13 => ?_)
          · rw [if_pos c_13] at hR
            refine lv_lload_n hx hb dX9_number_178 rfl (lv_at hl 3 rfl) ?_
            refine lv_iconst (v := 1) hx hb dX9_number_179 (by decide) ?_
            refine lv_lshr hx hb dX9_number_180 rfl ?_
            refine lv_lstore (lv' := [(9, .long ((v : Int64) >>> ((1 : Int32).toInt64 &&& 63))), (0, .ref h0), (1, .int x), (2, .int nn), (3, .long v), (5, .int sh), (6, .int be), (7, .int pp), (8, .int mo)]) hx hb dX9_number_181 hl (by decide) rfl (fun ls hl => ?_)
            refine lv_aload_n hx hb dX9_number_183 rfl (lv_at hl 1 rfl) ?_
            refine va_get (D := (dC, dI)) (ci := 9) (v := .int mn) (C := RX9) (T := TX9) (N := 17) hx hb hts inc_X9_number_9 hown hG.1 hP 0 rfl rfl 12 (by decide) (hts (.fieldLink RX9 49 "MappingDeskModel" "many" "I") (by decide +kernel)) (fun _ h9 => h9) rfl dX9_number_184 ?_
            refine lv_bipush (v := 6) hx hb dX9_number_187 (by decide) ?_
            refine lv_icmp_ge (tgt := 217) hx hb dX9_number_189 (by decide) (fun c_14 => ?_) (fun c_14 => ?_)
            · rw [if_pos c_14] at hR
              refine lv_aload_n hx hb dX9_number_217 rfl (lv_at hl 1 rfl) ?_
              refine lv_dup hx hb dX9_number_218 rfl ?_
              refine va_get (D := (dC, dI)) (ci := 9) (v := .int mn) (C := RX9) (T := TX9) (N := 17) hx hb hts inc_X9_number_9 hown hG.1 hP 0 rfl rfl 12 (by decide) (hts (.fieldLink RX9 49 "MappingDeskModel" "many" "I") (by decide +kernel)) (fun _ h9 => h9) rfl dX9_number_219 ?_
              refine lv_iconst (v := 1) hx hb dX9_number_222 (by decide) ?_
              refine lv_iadd hx hb dX9_number_223 ?_
              refine va_put (D := (dC, dI)) (ci := 9) (v := .int (mn + 1)) (ty := .int) (C := RX9) (T := TX9) (N := 17) hx hb hts inc_X9_number_9 tyX9 tyX9_ok nmX9 hown hG.1 hP hD hS 0 rfl rfl 12 (by decide) (hts (.fieldLink RX9 49 "MappingDeskModel" "many" "I") (by decide +kernel)) (fun _ h9 => h9) rfl (by decide +kernel) rfl rfl (Nat.le_of_ble_eq_true rfl) dX9_number_224 (fun H locs hP hD hS => ?_)
              have hP : va_P (dC, dI) vwCl [(h0, .inr (9, [.int th, .ref a0, .ref a1, .ref a2, .int dc, .ref a3, .int tl, .ref a4, .int xl, .int fo, .int fa, .ref a5, .int (mn + 1), .ref a6, .int ft, .ref a7, .int wl])), (a3, .inl (cB, 3000, .inl tp)), (a5, .inl (cJ, 6, .inr (.inl nu)))] H := hP
              have hD : va_D A [(h0, .inr (9, [.int th, .ref a0, .ref a1, .ref a2, .int dc, .ref a3, .int tl, .ref a4, .int xl, .int fo, .int fa, .ref a5, .int (mn + 1), .ref a6, .int ft, .ref a7, .int wl])), (a3, .inl (cB, 3000, .inl tp)), (a5, .inl (cJ, 6, .inr (.inl nu)))] := hD
              refine lv_iload hx hb dX9_number_227 (lv_at hl 7 rfl) ?_
              have e_15 : (pp : Int32).toInt = -1 ∨ (x.toInt < (pp : Int32).toInt ∧ (pp : Int32).toInt ≤ nn.toInt) := by
                have k_16 : (0 : Int32).toInt = 0 := by decide
                have q_17 := i_eq c_1
                have q_18 := i_eq c_2
                have k_19 : (6 : Int32).toInt = 6 := by decide
                have q_20 := i_le c_14
                try generalize Int32.toInt be = z0 at *
                try generalize Int32.toInt mn = z1 at *
                try generalize Int32.toInt mo = z2 at *
                try generalize Int32.toInt nn = z3 at *
                try generalize Int32.toInt pp = z4 at *
                try generalize Int32.toInt sh = z5 at *
                try generalize Int32.toInt (0 : Int32) = z6 at *
                try generalize Int32.toInt (6 : Int32) = z7 at *
                try generalize Int32.toInt x = z8 at *
                omega
              have e_21 : mn.toInt ≤ ((mn + 1) : Int32).toInt ∧ ((mn + 1) : Int32).toInt ≤ mn.toInt + 1 := by
                have k_22 : (0 : Int32).toInt = 0 := by decide
                have q_23 := i_eq c_1
                have q_24 := i_eq c_2
                have k_25 : (6 : Int32).toInt = 6 := by decide
                have q_26 := i_le c_14
                have k_27 : (1 : Int32).toInt = 1 := by decide
                have t_28 := ti_add (a := mn) (b := 1) (by omega) (by omega)
                try generalize Int32.toInt (mn + 1) = z0 at *
                try generalize Int32.toInt be = z1 at *
                try generalize Int32.toInt mn = z2 at *
                try generalize Int32.toInt mo = z3 at *
                try generalize Int32.toInt nn = z4 at *
                try generalize Int32.toInt pp = z5 at *
                try generalize Int32.toInt sh = z6 at *
                try generalize Int32.toInt (0 : Int32) = z7 at *
                try generalize Int32.toInt (1 : Int32) = z8 at *
                try generalize Int32.toInt (6 : Int32) = z9 at *
                try generalize Int32.toInt x = z10 at *
                omega
              subst hR
              exact W.iret (v := pp) hx hb hr (fun t ht hW => ⟨⟨pp, (), rfl, ⟨rfl, e_15, e_21⟩, by rw [ht]; exact hP, hD⟩, hS.F ht⟩) hS.2.2 dX9_number_229
            · rw [if_neg c_14] at hR
              refine lv_aload_n hx hb dX9_number_192 rfl (lv_at hl 1 rfl) ?_
              refine va_get (D := (dC, dI)) (ci := 9) (v := .ref a5) (C := RX9) (T := TX9) (N := 17) hx hb hts inc_X9_number_9 hown hG.1 hP 0 rfl rfl 11 (by decide) (hts (.fieldLink RX9 45 "MappingDeskModel" "nums" "[J") (by decide +kernel)) (fun _ h9 => h9) rfl dX9_number_193 ?_
              refine lv_aload_n hx hb dX9_number_196 rfl (lv_at hl 1 rfl) ?_
              refine va_get (D := (dC, dI)) (ci := 9) (v := .int mn) (C := RX9) (T := TX9) (N := 17) hx hb hts inc_X9_number_9 hown hG.1 hP 0 rfl rfl 12 (by decide) (hts (.fieldLink RX9 49 "MappingDeskModel" "many" "I") (by decide +kernel)) (fun _ h9 => h9) rfl dX9_number_197 ?_
              refine lv_lload_n hx hb dX9_number_200 rfl (lv_at hl 4 rfl) ?_
              refine lv_lconst (v := 1) hx hb dX9_number_201 (by decide) ?_
              refine lv_land hx hb dX9_number_202 ?_
              refine lv_lconst (v := 1) hx hb dX9_number_203 (by decide) ?_
              refine W.lcmp hx hb dX9_number_204 ?_
              refine lv_if_ne (tgt := 214) hx hb dX9_number_205 (by decide) (fun c_29 => ?_) (fun c_29 => ?_)
              · rw [if_neg c_29] at hR
                refine lv_lload hx hb dX9_number_214 (lv_at hl 0 rfl) ?_
                have b_30 : vp_in mn 6 := by
                  have k_31 : (0 : Int32).toInt = 0 := by decide
                  have q_32 := i_eq c_1
                  have q_33 := i_eq c_2
                  have k_34 : (6 : Int32).toInt = 6 := by decide
                  have q_35 := i_nle c_14
                  refine vin ?_ ?_
                  all_goals (try generalize Int32.toInt be = z0 at *; try generalize Int32.toInt mn = z1 at *; try generalize Int32.toInt mo = z2 at *; try generalize Int32.toInt nn = z3 at *; try generalize Int32.toInt pp = z4 at *; try generalize Int32.toInt sh = z5 at *; try generalize Int32.toInt (0 : Int32) = z6 at *; try generalize Int32.toInt (6 : Int32) = z7 at *; try generalize Int32.toInt x = z8 at *; omega)
                refine va_last hx hb hG.1 hP hD hS 2 3 rfl rfl b_30 dX9_number_216 (fun H locs hP hD hS => ?_)
                have hP : va_P (dC, dI) vwCl [(h0, .inr (9, [.int th, .ref a0, .ref a1, .ref a2, .int dc, .ref a3, .int tl, .ref a4, .int xl, .int fo, .int fa, .ref a5, .int mn, .ref a6, .int ft, .ref a7, .int wl])), (a3, .inl (cB, 3000, .inl tp)), (a5, .inl (cJ, 6, .inr (.inl (vp_updL nu mn.toNatClampNeg ((v : Int64) >>> ((1 : Int32).toInt64 &&& 63))))))] H := hP
                have hD : va_D A [(h0, .inr (9, [.int th, .ref a0, .ref a1, .ref a2, .int dc, .ref a3, .int tl, .ref a4, .int xl, .int fo, .int fa, .ref a5, .int mn, .ref a6, .int ft, .ref a7, .int wl])), (a3, .inl (cB, 3000, .inl tp)), (a5, .inl (cJ, 6, .inr (.inl (vp_updL nu mn.toNatClampNeg ((v : Int64) >>> ((1 : Int32).toInt64 &&& 63))))))] := hD
                refine lv_aload_n hx hb dX9_number_217 rfl (lv_at hl 1 rfl) ?_
                refine lv_dup hx hb dX9_number_218 rfl ?_
                refine va_get (D := (dC, dI)) (ci := 9) (v := .int mn) (C := RX9) (T := TX9) (N := 17) hx hb hts inc_X9_number_9 hown hG.1 hP 0 rfl rfl 12 (by decide) (hts (.fieldLink RX9 49 "MappingDeskModel" "many" "I") (by decide +kernel)) (fun _ h9 => h9) rfl dX9_number_219 ?_
                refine lv_iconst (v := 1) hx hb dX9_number_222 (by decide) ?_
                refine lv_iadd hx hb dX9_number_223 ?_
                refine va_put (D := (dC, dI)) (ci := 9) (v := .int (mn + 1)) (ty := .int) (C := RX9) (T := TX9) (N := 17) hx hb hts inc_X9_number_9 tyX9 tyX9_ok nmX9 hown hG.1 hP hD hS 0 rfl rfl 12 (by decide) (hts (.fieldLink RX9 49 "MappingDeskModel" "many" "I") (by decide +kernel)) (fun _ h9 => h9) rfl (by decide +kernel) rfl rfl (Nat.le_of_ble_eq_true rfl) dX9_number_224 (fun H locs hP hD hS => ?_)
                have hP : va_P (dC, dI) vwCl [(h0, .inr (9, [.int th, .ref a0, .ref a1, .ref a2, .int dc, .ref a3, .int tl, .ref a4, .int xl, .int fo, .int fa, .ref a5, .int (mn + 1), .ref a6, .int ft, .ref a7, .int wl])), (a3, .inl (cB, 3000, .inl tp)), (a5, .inl (cJ, 6, .inr (.inl (vp_updL nu mn.toNatClampNeg ((v : Int64) >>> ((1 : Int32).toInt64 &&& 63))))))] H := hP
                have hD : va_D A [(h0, .inr (9, [.int th, .ref a0, .ref a1, .ref a2, .int dc, .ref a3, .int tl, .ref a4, .int xl, .int fo, .int fa, .ref a5, .int (mn + 1), .ref a6, .int ft, .ref a7, .int wl])), (a3, .inl (cB, 3000, .inl tp)), (a5, .inl (cJ, 6, .inr (.inl (vp_updL nu mn.toNatClampNeg ((v : Int64) >>> ((1 : Int32).toInt64 &&& 63))))))] := hD
                refine lv_iload hx hb dX9_number_227 (lv_at hl 7 rfl) ?_
                have e_38 : (pp : Int32).toInt = -1 ∨ (x.toInt < (pp : Int32).toInt ∧ (pp : Int32).toInt ≤ nn.toInt) := by
                  have k_39 : (0 : Int32).toInt = 0 := by decide
                  have q_40 := i_eq c_1
                  have q_41 := i_eq c_2
                  have k_42 : (6 : Int32).toInt = 6 := by decide
                  have q_43 := i_nle c_14
                  try generalize Int32.toInt be = z0 at *
                  try generalize Int32.toInt mn = z1 at *
                  try generalize Int32.toInt mo = z2 at *
                  try generalize Int32.toInt nn = z3 at *
                  try generalize Int32.toInt pp = z4 at *
                  try generalize Int32.toInt sh = z5 at *
                  try generalize Int32.toInt (0 : Int32) = z6 at *
                  try generalize Int32.toInt (6 : Int32) = z7 at *
                  try generalize Int32.toInt x = z8 at *
                  omega
                have e_44 : mn.toInt ≤ ((mn + 1) : Int32).toInt ∧ ((mn + 1) : Int32).toInt ≤ mn.toInt + 1 := by
                  have k_45 : (0 : Int32).toInt = 0 := by decide
                  have q_46 := i_eq c_1
                  have q_47 := i_eq c_2
                  have k_48 : (6 : Int32).toInt = 6 := by decide
                  have q_49 := i_nle c_14
                  have k_50 : (1 : Int32).toInt = 1 := by decide
                  have t_51 := ti_add (a := mn) (b := 1) (by omega) (by omega)
                  try generalize Int32.toInt (mn + 1) = z0 at *
                  try generalize Int32.toInt be = z1 at *
                  try generalize Int32.toInt mn = z2 at *
                  try generalize Int32.toInt mo = z3 at *
                  try generalize Int32.toInt nn = z4 at *
                  try generalize Int32.toInt pp = z5 at *
                  try generalize Int32.toInt sh = z6 at *
                  try generalize Int32.toInt (0 : Int32) = z7 at *
                  try generalize Int32.toInt (1 : Int32) = z8 at *
                  try generalize Int32.toInt (6 : Int32) = z9 at *
                  try generalize Int32.toInt x = z10 at *
                  omega
                subst hR
                exact W.iret (v := pp) hx hb hr (fun t ht hW => ⟨⟨pp, (), rfl, ⟨rfl, e_38, e_44⟩, by rw [ht]; exact hP, hD⟩, hS.F ht⟩) hS.2.2 dX9_number_229
              · rw [if_pos c_29] at hR
                refine lv_lload hx hb dX9_number_208 (lv_at hl 0 rfl) ?_
                refine lv_lneg hx hb dX9_number_210 ?_
                refine lv_goto (tgt := 216) hx hb dX9_number_211 (by decide) ?_
                have b_52 : vp_in mn 6 := by
                  have k_53 : (0 : Int32).toInt = 0 := by decide
                  have q_54 := i_eq c_1
                  have q_55 := i_eq c_2
                  have k_56 : (6 : Int32).toInt = 6 := by decide
                  have q_57 := i_nle c_14
                  refine vin ?_ ?_
                  all_goals (try generalize Int32.toInt be = z0 at *; try generalize Int32.toInt mn = z1 at *; try generalize Int32.toInt mo = z2 at *; try generalize Int32.toInt nn = z3 at *; try generalize Int32.toInt pp = z4 at *; try generalize Int32.toInt sh = z5 at *; try generalize Int32.toInt (0 : Int32) = z6 at *; try generalize Int32.toInt (6 : Int32) = z7 at *; try generalize Int32.toInt x = z8 at *; omega)
                refine va_last hx hb hG.1 hP hD hS 2 3 rfl rfl b_52 dX9_number_216 (fun H locs hP hD hS => ?_)
                have hP : va_P (dC, dI) vwCl [(h0, .inr (9, [.int th, .ref a0, .ref a1, .ref a2, .int dc, .ref a3, .int tl, .ref a4, .int xl, .int fo, .int fa, .ref a5, .int mn, .ref a6, .int ft, .ref a7, .int wl])), (a3, .inl (cB, 3000, .inl tp)), (a5, .inl (cJ, 6, .inr (.inl (vp_updL nu mn.toNatClampNeg (-((v : Int64) >>> ((1 : Int32).toInt64 &&& 63)))))))] H := hP
                have hD : va_D A [(h0, .inr (9, [.int th, .ref a0, .ref a1, .ref a2, .int dc, .ref a3, .int tl, .ref a4, .int xl, .int fo, .int fa, .ref a5, .int mn, .ref a6, .int ft, .ref a7, .int wl])), (a3, .inl (cB, 3000, .inl tp)), (a5, .inl (cJ, 6, .inr (.inl (vp_updL nu mn.toNatClampNeg (-((v : Int64) >>> ((1 : Int32).toInt64 &&& 63)))))))] := hD
                refine lv_aload_n hx hb dX9_number_217 rfl (lv_at hl 1 rfl) ?_
                refine lv_dup hx hb dX9_number_218 rfl ?_
                refine va_get (D := (dC, dI)) (ci := 9) (v := .int mn) (C := RX9) (T := TX9) (N := 17) hx hb hts inc_X9_number_9 hown hG.1 hP 0 rfl rfl 12 (by decide) (hts (.fieldLink RX9 49 "MappingDeskModel" "many" "I") (by decide +kernel)) (fun _ h9 => h9) rfl dX9_number_219 ?_
                refine lv_iconst (v := 1) hx hb dX9_number_222 (by decide) ?_
                refine lv_iadd hx hb dX9_number_223 ?_
                refine va_put (D := (dC, dI)) (ci := 9) (v := .int (mn + 1)) (ty := .int) (C := RX9) (T := TX9) (N := 17) hx hb hts inc_X9_number_9 tyX9 tyX9_ok nmX9 hown hG.1 hP hD hS 0 rfl rfl 12 (by decide) (hts (.fieldLink RX9 49 "MappingDeskModel" "many" "I") (by decide +kernel)) (fun _ h9 => h9) rfl (by decide +kernel) rfl rfl (Nat.le_of_ble_eq_true rfl) dX9_number_224 (fun H locs hP hD hS => ?_)
                have hP : va_P (dC, dI) vwCl [(h0, .inr (9, [.int th, .ref a0, .ref a1, .ref a2, .int dc, .ref a3, .int tl, .ref a4, .int xl, .int fo, .int fa, .ref a5, .int (mn + 1), .ref a6, .int ft, .ref a7, .int wl])), (a3, .inl (cB, 3000, .inl tp)), (a5, .inl (cJ, 6, .inr (.inl (vp_updL nu mn.toNatClampNeg (-((v : Int64) >>> ((1 : Int32).toInt64 &&& 63)))))))] H := hP
                have hD : va_D A [(h0, .inr (9, [.int th, .ref a0, .ref a1, .ref a2, .int dc, .ref a3, .int tl, .ref a4, .int xl, .int fo, .int fa, .ref a5, .int (mn + 1), .ref a6, .int ft, .ref a7, .int wl])), (a3, .inl (cB, 3000, .inl tp)), (a5, .inl (cJ, 6, .inr (.inl (vp_updL nu mn.toNatClampNeg (-((v : Int64) >>> ((1 : Int32).toInt64 &&& 63)))))))] := hD
                refine lv_iload hx hb dX9_number_227 (lv_at hl 7 rfl) ?_
                have e_60 : (pp : Int32).toInt = -1 ∨ (x.toInt < (pp : Int32).toInt ∧ (pp : Int32).toInt ≤ nn.toInt) := by
                  have k_61 : (0 : Int32).toInt = 0 := by decide
                  have q_62 := i_eq c_1
                  have q_63 := i_eq c_2
                  have k_64 : (6 : Int32).toInt = 6 := by decide
                  have q_65 := i_nle c_14
                  try generalize Int32.toInt be = z0 at *
                  try generalize Int32.toInt mn = z1 at *
                  try generalize Int32.toInt mo = z2 at *
                  try generalize Int32.toInt nn = z3 at *
                  try generalize Int32.toInt pp = z4 at *
                  try generalize Int32.toInt sh = z5 at *
                  try generalize Int32.toInt (0 : Int32) = z6 at *
                  try generalize Int32.toInt (6 : Int32) = z7 at *
                  try generalize Int32.toInt x = z8 at *
                  omega
                have e_66 : mn.toInt ≤ ((mn + 1) : Int32).toInt ∧ ((mn + 1) : Int32).toInt ≤ mn.toInt + 1 := by
                  have k_67 : (0 : Int32).toInt = 0 := by decide
                  have q_68 := i_eq c_1
                  have q_69 := i_eq c_2
                  have k_70 : (6 : Int32).toInt = 6 := by decide
                  have q_71 := i_nle c_14
                  have k_72 : (1 : Int32).toInt = 1 := by decide
                  have t_73 := ti_add (a := mn) (b := 1) (by omega) (by omega)
                  try generalize Int32.toInt (mn + 1) = z0 at *
                  try generalize Int32.toInt be = z1 at *
                  try generalize Int32.toInt mn = z2 at *
                  try generalize Int32.toInt mo = z3 at *
                  try generalize Int32.toInt nn = z4 at *
                  try generalize Int32.toInt pp = z5 at *
                  try generalize Int32.toInt sh = z6 at *
                  try generalize Int32.toInt (0 : Int32) = z7 at *
                  try generalize Int32.toInt (1 : Int32) = z8 at *
                  try generalize Int32.toInt (6 : Int32) = z9 at *
                  try generalize Int32.toInt x = z10 at *
                  omega
                subst hR
                exact W.iret (v := pp) hx hb hr (fun t ht hW => ⟨⟨pp, (), rfl, ⟨rfl, e_60, e_66⟩, by rw [ht]; exact hP, hD⟩, hS.F ht⟩) hS.2.2 dX9_number_229
          · rw [if_neg c_13] at hR
            refine lv_aload_n hx hb dX9_number_169 rfl (lv_at hl 0 rfl) ?_
            refine lv_iconst (v := 2) hx hb dX9_number_170 (by decide) ?_
            refine lv_iload_n hx hb dX9_number_171 rfl (lv_at hl 1 rfl) ?_
            have hPc := hP.sub (ws' := [(h0, .inr (9, [.int th, .ref a0, .ref a1, .ref a2, .int dc, .ref a3, .int tl, .ref a4, .int xl, .int fo, .int fa, .ref a5, .int mn, .ref a6, .int ft, .ref a7, .int wl]))]) [0] rfl
            have hDc := hD.sub (ws' := [(h0, .inr (9, [.int th, .ref a0, .ref a1, .ref a2, .int dc, .ref a3, .int tl, .ref a4, .int xl, .int fo, .int fa, .ref a5, .int mn, .ref a6, .int ft, .ref a7, .int wl]))]) [0] (by decide) rfl
            have hFc := va_free (wc := [(h0, .inr (9, [.int th, .ref a0, .ref a1, .ref a2, .int dc, .ref a3, .int tl, .ref a4, .int xl, .int fo, .int fa, .ref a5, .int mn, .ref a6, .int ft, .ref a7, .int wl]))]) hD hS hA [0] rfl
            refine va_calli (va_runV (As := [.int 2, .int x]) (rest := []) ⟨hx, hb, hml, hown, hts⟩ (c_X9_fails l dC dI cB cC cI cJ H.size h0 a0 a1 a2 a3 a4 a5 a6 a7 th dc tl xl fo fa mn ft wl 2 x ) (cwV 2 hts gX9_number_X9_fails rfl rfl rfl (by decide +kernel) ⟨(Nat.le_of_ble_eq_true rfl), (Nat.le_of_ble_eq_true rfl)⟩) ⟨cP_blind, va_recv hG.1 hPc (ci := 9) (q0 := 0) rfl rfl, cP_pre hPc hG hDc⟩ rfl rfl hl.1 rfl (lv_room (Nat.le_of_ble_eq_true rfl)) dX9_number_172 ⟨Nat.le_of_ble_eq_true rfl, Nat.le_of_ble_eq_true rfl⟩) hS (fun q _ h => hFc q h) hFc (fun r_74v u t H1 locs ht hvm hw hB hz1 hk1 hS => ?_)
            obtain ⟨hP1, hD1⟩ := hB
            rw [ht] at hP1
            generalize hr_74 : fX9_fails th dc tl xl fo fa mn ft wl 2 x = r_74 at hP1 hD1 hw
            obtain ⟨hw, er_74_0⟩ := hw
            rw [bnd_eq hr_74] at hR
            subst hw
            obtain ⟨hP, hD⟩ := va_join (wr := [(a3, .inl (cB, 3000, .inl tp)), (a5, .inl (cJ, 6, .inr (.inl nu)))]) (w1 := [(h0, .inr (9, [.int th, .ref a0, .ref a1, .ref a2, .int dc, .ref a3, .int tl, .ref a4, .int xl, .int r_74.2.1, .int r_74.2.2, .ref a5, .int mn, .ref a6, .int ft, .ref a7, .int wl]))]) hP hD [0] [1, 2] rfl rfl (by decide) (by decide) hk1 hFc hP1 hD1
            generalize H1 = H at hP hS ⊢
            have hP := hP.sub (ws' := [(h0, .inr (9, [.int th, .ref a0, .ref a1, .ref a2, .int dc, .ref a3, .int tl, .ref a4, .int xl, .int r_74.2.1, .int r_74.2.2, .ref a5, .int mn, .ref a6, .int ft, .ref a7, .int wl])), (a3, .inl (cB, 3000, .inl tp)), (a5, .inl (cJ, 6, .inr (.inl nu)))]) [2, 0, 1] rfl
            have hD := hD.sub (ws' := [(h0, .inr (9, [.int th, .ref a0, .ref a1, .ref a2, .int dc, .ref a3, .int tl, .ref a4, .int xl, .int r_74.2.1, .int r_74.2.2, .ref a5, .int mn, .ref a6, .int ft, .ref a7, .int wl])), (a3, .inl (cB, 3000, .inl tp)), (a5, .inl (cJ, 6, .inr (.inl nu)))]) [2, 0, 1] (by decide) rfl
            refine lv_pop hx hb dX9_number_175 rfl ?_
            refine lv_iconst (v := (-1)) hx hb dX9_number_176 (by decide) ?_
            have e_75 : ((-1) : Int32).toInt = -1 ∨ (x.toInt < ((-1) : Int32).toInt ∧ ((-1) : Int32).toInt ≤ nn.toInt) := by
              have k_76 : (0 : Int32).toInt = 0 := by decide
              have q_77 := i_eq c_1
              have q_78 := i_eq c_2
              have k_79 : ((-1) : Int32).toInt = -1 := by decide
              try generalize Int32.toInt ((-1) : Int32) = z0 at *
              try generalize Int32.toInt be = z1 at *
              try generalize Int32.toInt mn = z2 at *
              try generalize Int32.toInt mo = z3 at *
              try generalize Int32.toInt nn = z4 at *
              try generalize Int32.toInt pp = z5 at *
              try generalize Int32.toInt sh = z6 at *
              try generalize Int32.toInt (0 : Int32) = z7 at *
              try generalize Int32.toInt x = z8 at *
              omega
            have e_80 : mn.toInt ≤ (mn : Int32).toInt ∧ (mn : Int32).toInt ≤ mn.toInt + 1 := by
              have k_81 : (0 : Int32).toInt = 0 := by decide
              have q_82 := i_eq c_1
              have q_83 := i_eq c_2
              try generalize Int32.toInt be = z0 at *
              try generalize Int32.toInt mn = z1 at *
              try generalize Int32.toInt mo = z2 at *
              try generalize Int32.toInt nn = z3 at *
              try generalize Int32.toInt pp = z4 at *
              try generalize Int32.toInt sh = z5 at *
              try generalize Int32.toInt (0 : Int32) = z6 at *
              try generalize Int32.toInt x = z7 at *
              omega
            subst hR
            exact W.iret (v := (-1)) hx hb hr (fun t ht hW => ⟨⟨(-1), (), rfl, ⟨rfl, e_75, e_80⟩, by rw [ht]; exact hP, hD⟩, hS.F ht⟩) hS.2.2 dX9_number_177
      · rw [if_neg c_1] at hR
        refine lv_iload hx hb dX9_number_19 (lv_at hl 6 rfl) ?_
        refine lv_iload_n hx hb dX9_number_21 rfl (lv_at hl 2 rfl) ?_
        refine lv_icmp_eq (tgt := 49) hx hb dX9_number_22 (by decide) (fun c_84 => ?_) (fun c_84 => ?_)
        · rw [if_pos c_84] at hR
          refine lv_aload_n hx hb dX9_number_49 rfl (lv_at hl 0 rfl) ?_
          refine lv_iconst (v := 2) hx hb dX9_number_50 (by decide) ?_
          refine lv_iload hx hb dX9_number_51 (lv_at hl 6 rfl) ?_
          have hPc := hP.sub (ws' := [(h0, .inr (9, [.int th, .ref a0, .ref a1, .ref a2, .int dc, .ref a3, .int tl, .ref a4, .int xl, .int fo, .int fa, .ref a5, .int mn, .ref a6, .int ft, .ref a7, .int wl]))]) [0] rfl
          have hDc := hD.sub (ws' := [(h0, .inr (9, [.int th, .ref a0, .ref a1, .ref a2, .int dc, .ref a3, .int tl, .ref a4, .int xl, .int fo, .int fa, .ref a5, .int mn, .ref a6, .int ft, .ref a7, .int wl]))]) [0] (by decide) rfl
          have hFc := va_free (wc := [(h0, .inr (9, [.int th, .ref a0, .ref a1, .ref a2, .int dc, .ref a3, .int tl, .ref a4, .int xl, .int fo, .int fa, .ref a5, .int mn, .ref a6, .int ft, .ref a7, .int wl]))]) hD hS hA [0] rfl
          refine va_calli (va_runV (As := [.int 2, .int pp]) (rest := []) ⟨hx, hb, hml, hown, hts⟩ (c_X9_fails l dC dI cB cC cI cJ H.size h0 a0 a1 a2 a3 a4 a5 a6 a7 th dc tl xl fo fa mn ft wl 2 pp ) (cwV 2 hts gX9_number_X9_fails rfl rfl rfl (by decide +kernel) ⟨(Nat.le_of_ble_eq_true rfl), (Nat.le_of_ble_eq_true rfl)⟩) ⟨cP_blind, va_recv hG.1 hPc (ci := 9) (q0 := 0) rfl rfl, cP_pre hPc hG hDc⟩ rfl rfl hl.1 rfl (lv_room (Nat.le_of_ble_eq_true rfl)) dX9_number_53 ⟨Nat.le_of_ble_eq_true rfl, Nat.le_of_ble_eq_true rfl⟩) hS (fun q _ h => hFc q h) hFc (fun r_85v u t H1 locs ht hvm hw hB hz1 hk1 hS => ?_)
          obtain ⟨hP1, hD1⟩ := hB
          rw [ht] at hP1
          generalize hr_85 : fX9_fails th dc tl xl fo fa mn ft wl 2 pp = r_85 at hP1 hD1 hw
          obtain ⟨hw, er_85_0⟩ := hw
          rw [bnd_eq hr_85] at hR
          subst hw
          obtain ⟨hP, hD⟩ := va_join (wr := [(a3, .inl (cB, 3000, .inl tp)), (a5, .inl (cJ, 6, .inr (.inl nu)))]) (w1 := [(h0, .inr (9, [.int th, .ref a0, .ref a1, .ref a2, .int dc, .ref a3, .int tl, .ref a4, .int xl, .int r_85.2.1, .int r_85.2.2, .ref a5, .int mn, .ref a6, .int ft, .ref a7, .int wl]))]) hP hD [0] [1, 2] rfl rfl (by decide) (by decide) hk1 hFc hP1 hD1
          generalize H1 = H at hP hS ⊢
          have hP := hP.sub (ws' := [(h0, .inr (9, [.int th, .ref a0, .ref a1, .ref a2, .int dc, .ref a3, .int tl, .ref a4, .int xl, .int r_85.2.1, .int r_85.2.2, .ref a5, .int mn, .ref a6, .int ft, .ref a7, .int wl])), (a3, .inl (cB, 3000, .inl tp)), (a5, .inl (cJ, 6, .inr (.inl nu)))]) [2, 0, 1] rfl
          have hD := hD.sub (ws' := [(h0, .inr (9, [.int th, .ref a0, .ref a1, .ref a2, .int dc, .ref a3, .int tl, .ref a4, .int xl, .int r_85.2.1, .int r_85.2.2, .ref a5, .int mn, .ref a6, .int ft, .ref a7, .int wl])), (a3, .inl (cB, 3000, .inl tp)), (a5, .inl (cJ, 6, .inr (.inl nu)))]) [2, 0, 1] (by decide) rfl
          refine lv_pop hx hb dX9_number_56 rfl ?_
          refine lv_iconst (v := (-1)) hx hb dX9_number_57 (by decide) ?_
          have e_86 : ((-1) : Int32).toInt = -1 ∨ (x.toInt < ((-1) : Int32).toInt ∧ ((-1) : Int32).toInt ≤ nn.toInt) := by
            have k_87 : (0 : Int32).toInt = 0 := by decide
            have q_88 := i_ne c_1
            have q_89 := i_eq c_84
            have k_90 : ((-1) : Int32).toInt = -1 := by decide
            try generalize Int32.toInt ((-1) : Int32) = z0 at *
            try generalize Int32.toInt mn = z1 at *
            try generalize Int32.toInt mo = z2 at *
            try generalize Int32.toInt nn = z3 at *
            try generalize Int32.toInt pp = z4 at *
            try generalize Int32.toInt sh = z5 at *
            try generalize Int32.toInt (0 : Int32) = z6 at *
            try generalize Int32.toInt x = z7 at *
            omega
          have e_91 : mn.toInt ≤ (mn : Int32).toInt ∧ (mn : Int32).toInt ≤ mn.toInt + 1 := by
            have k_92 : (0 : Int32).toInt = 0 := by decide
            have q_93 := i_ne c_1
            have q_94 := i_eq c_84
            try generalize Int32.toInt mn = z0 at *
            try generalize Int32.toInt mo = z1 at *
            try generalize Int32.toInt nn = z2 at *
            try generalize Int32.toInt pp = z3 at *
            try generalize Int32.toInt sh = z4 at *
            try generalize Int32.toInt (0 : Int32) = z5 at *
            try generalize Int32.toInt x = z6 at *
            omega
          subst hR
          exact W.iret (v := (-1)) hx hb hr (fun t ht hW => ⟨⟨(-1), (), rfl, ⟨rfl, e_86, e_91⟩, by rw [ht]; exact hP, hD⟩, hS.F ht⟩) hS.2.2 dX9_number_58
        · rw [if_neg c_84] at hR
          refine lv_aload_n hx hb dX9_number_25 rfl (lv_at hl 0 rfl) ?_
          refine va_get (D := (dC, dI)) (ci := 9) (v := .ref a3) (C := RX9) (T := TX9) (N := 17) hx hb hts inc_X9_number_9 hown hG.1 hP 0 rfl rfl 5 (by decide) (hts (.fieldLink RX9 26 "MappingDeskModel" "tape" "[B") (by decide +kernel)) (fun _ h9 => h9) rfl dX9_number_26 ?_
          refine lv_iload hx hb dX9_number_29 (lv_at hl 6 rfl) ?_
          have b_95 : vp_in pp 3000 := by
            have k_96 : (0 : Int32).toInt = 0 := by decide
            have q_97 := i_ne c_1
            have q_98 := i_ne c_84
            refine vin ?_ ?_
            all_goals (try generalize Int32.toInt mn = z0 at *; try generalize Int32.toInt mo = z1 at *; try generalize Int32.toInt nn = z2 at *; try generalize Int32.toInt pp = z3 at *; try generalize Int32.toInt sh = z4 at *; try generalize Int32.toInt (0 : Int32) = z5 at *; try generalize Int32.toInt x = z6 at *; omega)
          refine va_bald hx hb hG.1 hP 1 0 rfl rfl b_95 dX9_number_31 ?_
          refine lv_bipush (v := 44) hx hb dX9_number_32 (by decide) ?_
          refine lv_icmp_eq (tgt := 49) hx hb dX9_number_34 (by decide) (fun c_101 => ?_) (fun c_101 => ?_)
          · rw [if_pos c_101] at hR
            refine lv_aload_n hx hb dX9_number_49 rfl (lv_at hl 0 rfl) ?_
            refine lv_iconst (v := 2) hx hb dX9_number_50 (by decide) ?_
            refine lv_iload hx hb dX9_number_51 (lv_at hl 6 rfl) ?_
            have hPc := hP.sub (ws' := [(h0, .inr (9, [.int th, .ref a0, .ref a1, .ref a2, .int dc, .ref a3, .int tl, .ref a4, .int xl, .int fo, .int fa, .ref a5, .int mn, .ref a6, .int ft, .ref a7, .int wl]))]) [0] rfl
            have hDc := hD.sub (ws' := [(h0, .inr (9, [.int th, .ref a0, .ref a1, .ref a2, .int dc, .ref a3, .int tl, .ref a4, .int xl, .int fo, .int fa, .ref a5, .int mn, .ref a6, .int ft, .ref a7, .int wl]))]) [0] (by decide) rfl
            have hFc := va_free (wc := [(h0, .inr (9, [.int th, .ref a0, .ref a1, .ref a2, .int dc, .ref a3, .int tl, .ref a4, .int xl, .int fo, .int fa, .ref a5, .int mn, .ref a6, .int ft, .ref a7, .int wl]))]) hD hS hA [0] rfl
            refine va_calli (va_runV (As := [.int 2, .int pp]) (rest := []) ⟨hx, hb, hml, hown, hts⟩ (c_X9_fails l dC dI cB cC cI cJ H.size h0 a0 a1 a2 a3 a4 a5 a6 a7 th dc tl xl fo fa mn ft wl 2 pp ) (cwV 2 hts gX9_number_X9_fails rfl rfl rfl (by decide +kernel) ⟨(Nat.le_of_ble_eq_true rfl), (Nat.le_of_ble_eq_true rfl)⟩) ⟨cP_blind, va_recv hG.1 hPc (ci := 9) (q0 := 0) rfl rfl, cP_pre hPc hG hDc⟩ rfl rfl hl.1 rfl (lv_room (Nat.le_of_ble_eq_true rfl)) dX9_number_53 ⟨Nat.le_of_ble_eq_true rfl, Nat.le_of_ble_eq_true rfl⟩) hS (fun q _ h => hFc q h) hFc (fun r_102v u t H1 locs ht hvm hw hB hz1 hk1 hS => ?_)
            obtain ⟨hP1, hD1⟩ := hB
            rw [ht] at hP1
            generalize hr_102 : fX9_fails th dc tl xl fo fa mn ft wl 2 pp = r_102 at hP1 hD1 hw
            obtain ⟨hw, er_102_0⟩ := hw
            rw [bnd_eq hr_102] at hR
            subst hw
            obtain ⟨hP, hD⟩ := va_join (wr := [(a3, .inl (cB, 3000, .inl tp)), (a5, .inl (cJ, 6, .inr (.inl nu)))]) (w1 := [(h0, .inr (9, [.int th, .ref a0, .ref a1, .ref a2, .int dc, .ref a3, .int tl, .ref a4, .int xl, .int r_102.2.1, .int r_102.2.2, .ref a5, .int mn, .ref a6, .int ft, .ref a7, .int wl]))]) hP hD [0] [1, 2] rfl rfl (by decide) (by decide) hk1 hFc hP1 hD1
            generalize H1 = H at hP hS ⊢
            have hP := hP.sub (ws' := [(h0, .inr (9, [.int th, .ref a0, .ref a1, .ref a2, .int dc, .ref a3, .int tl, .ref a4, .int xl, .int r_102.2.1, .int r_102.2.2, .ref a5, .int mn, .ref a6, .int ft, .ref a7, .int wl])), (a3, .inl (cB, 3000, .inl tp)), (a5, .inl (cJ, 6, .inr (.inl nu)))]) [2, 0, 1] rfl
            have hD := hD.sub (ws' := [(h0, .inr (9, [.int th, .ref a0, .ref a1, .ref a2, .int dc, .ref a3, .int tl, .ref a4, .int xl, .int r_102.2.1, .int r_102.2.2, .ref a5, .int mn, .ref a6, .int ft, .ref a7, .int wl])), (a3, .inl (cB, 3000, .inl tp)), (a5, .inl (cJ, 6, .inr (.inl nu)))]) [2, 0, 1] (by decide) rfl
            refine lv_pop hx hb dX9_number_56 rfl ?_
            refine lv_iconst (v := (-1)) hx hb dX9_number_57 (by decide) ?_
            have e_103 : ((-1) : Int32).toInt = -1 ∨ (x.toInt < ((-1) : Int32).toInt ∧ ((-1) : Int32).toInt ≤ nn.toInt) := by
              have k_104 : (0 : Int32).toInt = 0 := by decide
              have q_105 := i_ne c_1
              have q_106 := i_ne c_84
              have k_107 : (44 : Int32).toInt = 44 := by decide
              have q_108 := i_eq c_101
              have k_109 : ((-1) : Int32).toInt = -1 := by decide
              try generalize Int32.toInt (tp pp.toNatClampNeg) = z0 at *
              try generalize Int32.toInt ((-1) : Int32) = z1 at *
              try generalize Int32.toInt (44 : Int32) = z2 at *
              try generalize Int32.toInt mn = z3 at *
              try generalize Int32.toInt mo = z4 at *
              try generalize Int32.toInt nn = z5 at *
              try generalize Int32.toInt pp = z6 at *
              try generalize Int32.toInt sh = z7 at *
              try generalize Int32.toInt (0 : Int32) = z8 at *
              try generalize Int32.toInt x = z9 at *
              omega
            have e_110 : mn.toInt ≤ (mn : Int32).toInt ∧ (mn : Int32).toInt ≤ mn.toInt + 1 := by
              have k_111 : (0 : Int32).toInt = 0 := by decide
              have q_112 := i_ne c_1
              have q_113 := i_ne c_84
              have k_114 : (44 : Int32).toInt = 44 := by decide
              have q_115 := i_eq c_101
              try generalize Int32.toInt (tp pp.toNatClampNeg) = z0 at *
              try generalize Int32.toInt (44 : Int32) = z1 at *
              try generalize Int32.toInt mn = z2 at *
              try generalize Int32.toInt mo = z3 at *
              try generalize Int32.toInt nn = z4 at *
              try generalize Int32.toInt pp = z5 at *
              try generalize Int32.toInt sh = z6 at *
              try generalize Int32.toInt (0 : Int32) = z7 at *
              try generalize Int32.toInt x = z8 at *
              omega
            subst hR
            exact W.iret (v := (-1)) hx hb hr (fun t ht hW => ⟨⟨(-1), (), rfl, ⟨rfl, e_103, e_110⟩, by rw [ht]; exact hP, hD⟩, hS.F ht⟩) hS.2.2 dX9_number_58
          · rw [if_neg c_101] at hR
            refine lv_aload_n hx hb dX9_number_37 rfl (lv_at hl 0 rfl) ?_
            refine va_get (D := (dC, dI)) (ci := 9) (v := .ref a3) (C := RX9) (T := TX9) (N := 17) hx hb hts inc_X9_number_9 hown hG.1 hP 0 rfl rfl 5 (by decide) (hts (.fieldLink RX9 26 "MappingDeskModel" "tape" "[B") (by decide +kernel)) (fun _ h9 => h9) rfl dX9_number_38 ?_
            refine lv_iload hx hb dX9_number_41 (lv_at hl 6 rfl) ?_
            have b_116 : vp_in pp 3000 := by
              have k_117 : (0 : Int32).toInt = 0 := by decide
              have q_118 := i_ne c_1
              have q_119 := i_ne c_84
              have k_120 : (44 : Int32).toInt = 44 := by decide
              have q_121 := i_ne c_101
              refine vin ?_ ?_
              all_goals (try generalize Int32.toInt (tp pp.toNatClampNeg) = z0 at *; try generalize Int32.toInt (44 : Int32) = z1 at *; try generalize Int32.toInt mn = z2 at *; try generalize Int32.toInt mo = z3 at *; try generalize Int32.toInt nn = z4 at *; try generalize Int32.toInt pp = z5 at *; try generalize Int32.toInt sh = z6 at *; try generalize Int32.toInt (0 : Int32) = z7 at *; try generalize Int32.toInt x = z8 at *; omega)
            refine va_bald hx hb hG.1 hP 1 0 rfl rfl b_116 dX9_number_43 ?_
            refine lv_bipush (v := 59) hx hb dX9_number_44 (by decide) ?_
            refine lv_icmp_ne (tgt := 59) hx hb dX9_number_46 (by decide) (fun c_124 => ?_) (fun c_124 => ?_)
            · rw [if_neg c_124] at hR
              refine lv_aload_n hx hb dX9_number_59 rfl (lv_at hl 0 rfl) ?_
              refine va_get (D := (dC, dI)) (ci := 9) (v := .ref a3) (C := RX9) (T := TX9) (N := 17) hx hb hts inc_X9_number_9 hown hG.1 hP 0 rfl rfl 5 (by decide) (hts (.fieldLink RX9 26 "MappingDeskModel" "tape" "[B") (by decide +kernel)) (fun _ h9 => h9) rfl dX9_number_60 ?_
              refine lv_iload hx hb dX9_number_63 (lv_at hl 6 rfl) ?_
              have b_125 : vp_in pp 3000 := by
                have k_126 : (0 : Int32).toInt = 0 := by decide
                have q_127 := i_ne c_1
                have q_128 := i_ne c_84
                have k_129 : (44 : Int32).toInt = 44 := by decide
                have q_130 := i_ne c_101
                have k_131 : (59 : Int32).toInt = 59 := by decide
                have q_132 := i_ne c_124
                refine vin ?_ ?_
                all_goals (try generalize Int32.toInt (tp pp.toNatClampNeg) = z0 at *; try generalize Int32.toInt (44 : Int32) = z1 at *; try generalize Int32.toInt (59 : Int32) = z2 at *; try generalize Int32.toInt mn = z3 at *; try generalize Int32.toInt mo = z4 at *; try generalize Int32.toInt nn = z5 at *; try generalize Int32.toInt pp = z6 at *; try generalize Int32.toInt sh = z7 at *; try generalize Int32.toInt (0 : Int32) = z8 at *; try generalize Int32.toInt x = z9 at *; omega)
              refine va_bald hx hb hG.1 hP 1 0 rfl rfl b_125 dX9_number_65 ?_
              have hPc := hP.sub (ws' := []) [] rfl
              have hDc := hD.sub (ws' := []) [] (by decide) rfl
              refine vp_callSi (va_Run.run (va_runS (As := [.int (tp pp.toNatClampNeg)]) (rest := []) ⟨hx, hb, hml, hown, hts⟩ (c_X9_worth l dC dI cB cC cI cJ H.size (tp pp.toNatClampNeg) ) (va_cwS 1 hts gX9_number_X9_worth rfl rfl rfl (by decide +kernel) ⟨(Nat.le_of_ble_eq_true rfl), (Nat.le_of_ble_eq_true rfl)⟩) ⟨cP_blind, cP_pre hPc hG hDc⟩ rfl rfl hl.1 rfl (lv_room (Nat.le_of_ble_eq_true rfl)) dX9_number_66 ⟨Nat.le_of_ble_eq_true rfl, Nat.le_of_ble_eq_true rfl⟩)) (fun r_135 hr_135 => ?_)
              obtain ⟨hr_135, er_135_0⟩ := hr_135
              rw [← hr_135] at er_135_0
              rw [bnd_eq hr_135.symm] at hR
              refine lv_istore (lv' := [(9, .int r_135), (0, .ref h0), (1, .int x), (2, .int nn), (3, .long v), (5, .int sh), (6, .int be), (7, .int pp), (8, .int mo)]) hx hb dX9_number_69 hl (by decide) rfl (fun ls hl => ?_)
              refine lv_iload hx hb dX9_number_71 (lv_at hl 0 rfl) ?_
              refine lv_if_ge (tgt := 86) hx hb dX9_number_73 (by decide) (fun c_136 => ?_) (fun c_136 => ?_)
              · rw [if_pos c_136] at hR
                refine lv_iload hx hb dX9_number_86 (lv_at hl 0 rfl) ?_
                refine lv_bipush (v := 31) hx hb dX9_number_88 (by decide) ?_
                refine lv_iand hx hb dX9_number_90 ?_
                refine lv_i2l hx hb dX9_number_91 rfl ?_
                refine lv_lstore (lv' := [(10, .long (((r_135 &&& 31) : Int32).toInt64)), (9, .int r_135), (0, .ref h0), (1, .int x), (2, .int nn), (3, .long v), (5, .int sh), (6, .int be), (7, .int pp), (8, .int mo)]) hx hb dX9_number_92 hl (by decide) rfl (fun ls hl => ?_)
                refine lv_iload hx hb dX9_number_94 (lv_at hl 6 rfl) ?_
                refine lv_bipush (v := 35) hx hb dX9_number_96 (by decide) ?_
                refine lv_icmp_ge (tgt := 112) hx hb dX9_number_98 (by decide) (fun c_137 => ?_) (fun c_137 => ?_)
                · rw [if_pos c_137] at hR
                  refine lv_iload hx hb dX9_number_112 (lv_at hl 7 rfl) ?_
                  refine lv_if_ne (tgt := 124) hx hb dX9_number_114 (by decide) (fun c_138 => ?_) (fun c_138 => ?_)
                  · rw [if_neg c_138] at hR
                    refine lv_iconst (v := 1) hx hb dX9_number_124 (by decide) ?_
                    refine lv_goto (tgt := 129) hx hb dX9_number_125 (by decide) ?_
                    refine lv_istore (lv' := [(6, .int 1), (10, .long (((r_135 &&& 31) : Int32).toInt64)), (9, .int r_135), (0, .ref h0), (1, .int x), (2, .int nn), (3, .long v), (5, .int sh), (7, .int pp), (8, .int mo)]) hx hb dX9_number_129 hl (by decide) rfl (fun ls hl => ?_)
                    refine lv_iinc (v := (sh + 5)) (lv' := [(5, .int (sh + 5)), (6, .int 1), (10, .long (((r_135 &&& 31) : Int32).toInt64)), (9, .int r_135), (0, .ref h0), (1, .int x), (2, .int nn), (3, .long v), (7, .int pp), (8, .int mo)]) hx hb dX9_number_131 hl (k := 7) rfl rfl (by decide) rfl (fun ls hl => ?_)
                    refine lv_iload hx hb dX9_number_134 (lv_at hl 3 rfl) ?_
                    refine lv_bipush (v := 31) hx hb dX9_number_136 (by decide) ?_
                    refine lv_icmp_le (tgt := 145) hx hb dX9_number_138 (by decide) (fun c_139 => ?_) (fun c_139 => ?_)
                    · rw [if_pos c_139] at hR
                      refine lv_iconst (v := 0) hx hb dX9_number_145 (by decide) ?_
                      refine lv_istore (lv' := [(8, .int 0), (5, .int (sh + 5)), (6, .int 1), (10, .long (((r_135 &&& 31) : Int32).toInt64)), (9, .int r_135), (0, .ref h0), (1, .int x), (2, .int nn), (3, .long v), (7, .int pp)]) hx hb dX9_number_146 hl (by decide) rfl (fun ls hl => ?_)
                      refine lv_iinc (v := (pp + 1)) (lv' := [(7, .int (pp + 1)), (8, .int 0), (5, .int (sh + 5)), (6, .int 1), (10, .long (((r_135 &&& 31) : Int32).toInt64)), (9, .int r_135), (0, .ref h0), (1, .int x), (2, .int nn), (3, .long v)]) hx hb dX9_number_148 hl (k := 9) rfl rfl (by decide) rfl (fun ls hl => ?_)
                      refine lv_goto (tgt := 14) hx hb dX9_number_151 (by decide) ?_
                      have v_153 : x.toInt ≤ ((pp + 1)).toInt := by
                        have k_154 : (0 : Int32).toInt = 0 := by decide
                        have q_155 := i_ne c_1
                        have q_156 := i_ne c_84
                        have k_157 : (44 : Int32).toInt = 44 := by decide
                        have q_158 := i_ne c_101
                        have k_159 : (59 : Int32).toInt = 59 := by decide
                        have q_160 := i_ne c_124
                        have q_161 := i_le c_136
                        have k_162 : (35 : Int32).toInt = 35 := by decide
                        have q_163 := i_le c_137
                        have q_164 := i_ne c_138
                        have k_165 : (31 : Int32).toInt = 31 := by decide
                        have q_166 := i_le c_139
                        have k_167 : (1 : Int32).toInt = 1 := by decide
                        have t_168 := ti_add (a := pp) (b := 1) (by omega) (by omega)
                        try generalize Int32.toInt (tp pp.toNatClampNeg) = z0 at *
                        try generalize Int32.toInt (pp + 1) = z1 at *
                        try generalize Int32.toInt r_135 = z2 at *
                        try generalize Int32.toInt (31 : Int32) = z3 at *
                        try generalize Int32.toInt (35 : Int32) = z4 at *
                        try generalize Int32.toInt (44 : Int32) = z5 at *
                        try generalize Int32.toInt (59 : Int32) = z6 at *
                        try generalize Int32.toInt be = z7 at *
                        try generalize Int32.toInt mn = z8 at *
                        try generalize Int32.toInt mo = z9 at *
                        try generalize Int32.toInt nn = z10 at *
                        try generalize Int32.toInt pp = z11 at *
                        try generalize Int32.toInt sh = z12 at *
                        try generalize Int32.toInt (0 : Int32) = z13 at *
                        try generalize Int32.toInt (1 : Int32) = z14 at *
                        try generalize Int32.toInt x = z15 at *
                        omega
                      have v_169 : ((pp + 1)).toInt ≤ nn.toInt := by
                        have k_170 : (0 : Int32).toInt = 0 := by decide
                        have q_171 := i_ne c_1
                        have q_172 := i_ne c_84
                        have k_173 : (44 : Int32).toInt = 44 := by decide
                        have q_174 := i_ne c_101
                        have k_175 : (59 : Int32).toInt = 59 := by decide
                        have q_176 := i_ne c_124
                        have q_177 := i_le c_136
                        have k_178 : (35 : Int32).toInt = 35 := by decide
                        have q_179 := i_le c_137
                        have q_180 := i_ne c_138
                        have k_181 : (31 : Int32).toInt = 31 := by decide
                        have q_182 := i_le c_139
                        have k_183 : (1 : Int32).toInt = 1 := by decide
                        have t_184 := ti_add (a := pp) (b := 1) (by omega) (by omega)
                        try generalize Int32.toInt (tp pp.toNatClampNeg) = z0 at *
                        try generalize Int32.toInt (pp + 1) = z1 at *
                        try generalize Int32.toInt r_135 = z2 at *
                        try generalize Int32.toInt (31 : Int32) = z3 at *
                        try generalize Int32.toInt (35 : Int32) = z4 at *
                        try generalize Int32.toInt (44 : Int32) = z5 at *
                        try generalize Int32.toInt (59 : Int32) = z6 at *
                        try generalize Int32.toInt be = z7 at *
                        try generalize Int32.toInt mn = z8 at *
                        try generalize Int32.toInt mo = z9 at *
                        try generalize Int32.toInt nn = z10 at *
                        try generalize Int32.toInt pp = z11 at *
                        try generalize Int32.toInt sh = z12 at *
                        try generalize Int32.toInt (0 : Int32) = z13 at *
                        try generalize Int32.toInt (1 : Int32) = z14 at *
                        try generalize Int32.toInt x = z15 at *
                        omega
                      have v_185 : (0 : Int32).toInt = 0 → x.toInt < ((pp + 1)).toInt := by
                        have k_186 : (0 : Int32).toInt = 0 := by decide
                        have q_187 := i_ne c_1
                        have q_188 := i_ne c_84
                        have k_189 : (44 : Int32).toInt = 44 := by decide
                        have q_190 := i_ne c_101
                        have k_191 : (59 : Int32).toInt = 59 := by decide
                        have q_192 := i_ne c_124
                        have q_193 := i_le c_136
                        have k_194 : (35 : Int32).toInt = 35 := by decide
                        have q_195 := i_le c_137
                        have q_196 := i_ne c_138
                        have k_197 : (31 : Int32).toInt = 31 := by decide
                        have q_198 := i_le c_139
                        have k_199 : (1 : Int32).toInt = 1 := by decide
                        have t_200 := ti_add (a := pp) (b := 1) (by omega) (by omega)
                        try generalize Int32.toInt (tp pp.toNatClampNeg) = z0 at *
                        try generalize Int32.toInt (pp + 1) = z1 at *
                        try generalize Int32.toInt r_135 = z2 at *
                        try generalize Int32.toInt (31 : Int32) = z3 at *
                        try generalize Int32.toInt (35 : Int32) = z4 at *
                        try generalize Int32.toInt (44 : Int32) = z5 at *
                        try generalize Int32.toInt (59 : Int32) = z6 at *
                        try generalize Int32.toInt be = z7 at *
                        try generalize Int32.toInt mn = z8 at *
                        try generalize Int32.toInt mo = z9 at *
                        try generalize Int32.toInt nn = z10 at *
                        try generalize Int32.toInt pp = z11 at *
                        try generalize Int32.toInt sh = z12 at *
                        try generalize Int32.toInt (0 : Int32) = z13 at *
                        try generalize Int32.toInt (1 : Int32) = z14 at *
                        try generalize Int32.toInt x = z15 at *
                        omega
                      have v_201 : 0 ≤ ((sh + 5)).toInt := by
                        have k_202 : (0 : Int32).toInt = 0 := by decide
                        have q_203 := i_ne c_1
                        have q_204 := i_ne c_84
                        have k_205 : (44 : Int32).toInt = 44 := by decide
                        have q_206 := i_ne c_101
                        have k_207 : (59 : Int32).toInt = 59 := by decide
                        have q_208 := i_ne c_124
                        have q_209 := i_le c_136
                        have k_210 : (35 : Int32).toInt = 35 := by decide
                        have q_211 := i_le c_137
                        have q_212 := i_ne c_138
                        have k_213 : (31 : Int32).toInt = 31 := by decide
                        have q_214 := i_le c_139
                        have k_215 : (5 : Int32).toInt = 5 := by decide
                        have t_216 := ti_add (a := sh) (b := 5) (by omega) (by omega)
                        try generalize Int32.toInt (tp pp.toNatClampNeg) = z0 at *
                        try generalize Int32.toInt (sh + 5) = z1 at *
                        try generalize Int32.toInt r_135 = z2 at *
                        try generalize Int32.toInt (31 : Int32) = z3 at *
                        try generalize Int32.toInt (35 : Int32) = z4 at *
                        try generalize Int32.toInt (44 : Int32) = z5 at *
                        try generalize Int32.toInt (59 : Int32) = z6 at *
                        try generalize Int32.toInt be = z7 at *
                        try generalize Int32.toInt mn = z8 at *
                        try generalize Int32.toInt mo = z9 at *
                        try generalize Int32.toInt nn = z10 at *
                        try generalize Int32.toInt pp = z11 at *
                        try generalize Int32.toInt sh = z12 at *
                        try generalize Int32.toInt (0 : Int32) = z13 at *
                        try generalize Int32.toInt (5 : Int32) = z14 at *
                        try generalize Int32.toInt x = z15 at *
                        omega
                      have v_217 : ((sh + 5)).toInt ≤ 5 * (((pp + 1)).toInt - x.toInt) := by
                        have k_218 : (0 : Int32).toInt = 0 := by decide
                        have q_219 := i_ne c_1
                        have q_220 := i_ne c_84
                        have k_221 : (44 : Int32).toInt = 44 := by decide
                        have q_222 := i_ne c_101
                        have k_223 : (59 : Int32).toInt = 59 := by decide
                        have q_224 := i_ne c_124
                        have q_225 := i_le c_136
                        have k_226 : (35 : Int32).toInt = 35 := by decide
                        have q_227 := i_le c_137
                        have q_228 := i_ne c_138
                        have k_229 : (31 : Int32).toInt = 31 := by decide
                        have q_230 := i_le c_139
                        have k_231 : (5 : Int32).toInt = 5 := by decide
                        have t_232 := ti_add (a := sh) (b := 5) (by omega) (by omega)
                        have k_233 : (1 : Int32).toInt = 1 := by decide
                        have t_234 := ti_add (a := pp) (b := 1) (by omega) (by omega)
                        try generalize Int32.toInt (tp pp.toNatClampNeg) = z0 at *
                        try generalize Int32.toInt (pp + 1) = z1 at *
                        try generalize Int32.toInt (sh + 5) = z2 at *
                        try generalize Int32.toInt r_135 = z3 at *
                        try generalize Int32.toInt (31 : Int32) = z4 at *
                        try generalize Int32.toInt (35 : Int32) = z5 at *
                        try generalize Int32.toInt (44 : Int32) = z6 at *
                        try generalize Int32.toInt (59 : Int32) = z7 at *
                        try generalize Int32.toInt be = z8 at *
                        try generalize Int32.toInt mn = z9 at *
                        try generalize Int32.toInt mo = z10 at *
                        try generalize Int32.toInt nn = z11 at *
                        try generalize Int32.toInt pp = z12 at *
                        try generalize Int32.toInt sh = z13 at *
                        try generalize Int32.toInt (0 : Int32) = z14 at *
                        try generalize Int32.toInt (1 : Int32) = z15 at *
                        try generalize Int32.toInt (5 : Int32) = z16 at *
                        try generalize Int32.toInt x = z17 at *
                        omega
                      have v_235 : nn.toInt - ((pp + 1)).toInt + 1 < ((n : Nat) : Int) := by
                        have k_236 : (0 : Int32).toInt = 0 := by decide
                        have q_237 := i_ne c_1
                        have q_238 := i_ne c_84
                        have k_239 : (44 : Int32).toInt = 44 := by decide
                        have q_240 := i_ne c_101
                        have k_241 : (59 : Int32).toInt = 59 := by decide
                        have q_242 := i_ne c_124
                        have q_243 := i_le c_136
                        have k_244 : (35 : Int32).toInt = 35 := by decide
                        have q_245 := i_le c_137
                        have q_246 := i_ne c_138
                        have k_247 : (31 : Int32).toInt = 31 := by decide
                        have q_248 := i_le c_139
                        have k_249 : (1 : Int32).toInt = 1 := by decide
                        have t_250 := ti_add (a := pp) (b := 1) (by omega) (by omega)
                        try generalize Int32.toInt (tp pp.toNatClampNeg) = z0 at *
                        try generalize Int32.toInt (pp + 1) = z1 at *
                        try generalize Int32.toInt r_135 = z2 at *
                        try generalize Int32.toInt (31 : Int32) = z3 at *
                        try generalize Int32.toInt (35 : Int32) = z4 at *
                        try generalize Int32.toInt (44 : Int32) = z5 at *
                        try generalize Int32.toInt (59 : Int32) = z6 at *
                        try generalize Int32.toInt be = z7 at *
                        try generalize Int32.toInt mn = z8 at *
                        try generalize Int32.toInt mo = z9 at *
                        try generalize Int32.toInt nn = z10 at *
                        try generalize Int32.toInt pp = z11 at *
                        try generalize Int32.toInt sh = z12 at *
                        try generalize Int32.toInt (0 : Int32) = z13 at *
                        try generalize Int32.toInt (1 : Int32) = z14 at *
                        try generalize Int32.toInt x = z15 at *
                        omega
                      exact ih (v) ((sh + 5)) (1) ((pp + 1)) (0) _ _ ls hR v_153 v_169 v_185 v_201 v_217 v_235 hP hD hS (lv_sub hl [6, 7, 8, 9, 2, 3, 0, 1] rfl)
                    · rw [if_neg c_139] at hR
                      refine lv_iconst (v := 1) hx hb dX9_number_141 (by decide) ?_
                      refine lv_goto (tgt := 146) hx hb dX9_number_142 (by decide) ?_
                      refine lv_istore (lv' := [(8, .int 1), (5, .int (sh + 5)), (6, .int 1), (10, .long (((r_135 &&& 31) : Int32).toInt64)), (9, .int r_135), (0, .ref h0), (1, .int x), (2, .int nn), (3, .long v), (7, .int pp)]) hx hb dX9_number_146 hl (by decide) rfl (fun ls hl => ?_)
                      refine lv_iinc (v := (pp + 1)) (lv' := [(7, .int (pp + 1)), (8, .int 1), (5, .int (sh + 5)), (6, .int 1), (10, .long (((r_135 &&& 31) : Int32).toInt64)), (9, .int r_135), (0, .ref h0), (1, .int x), (2, .int nn), (3, .long v)]) hx hb dX9_number_148 hl (k := 9) rfl rfl (by decide) rfl (fun ls hl => ?_)
                      refine lv_goto (tgt := 14) hx hb dX9_number_151 (by decide) ?_
                      have v_264 : x.toInt ≤ ((pp + 1)).toInt := by
                        have k_265 : (0 : Int32).toInt = 0 := by decide
                        have q_266 := i_ne c_1
                        have q_267 := i_ne c_84
                        have k_268 : (44 : Int32).toInt = 44 := by decide
                        have q_269 := i_ne c_101
                        have k_270 : (59 : Int32).toInt = 59 := by decide
                        have q_271 := i_ne c_124
                        have q_272 := i_le c_136
                        have k_273 : (35 : Int32).toInt = 35 := by decide
                        have q_274 := i_le c_137
                        have q_275 := i_ne c_138
                        have k_276 : (31 : Int32).toInt = 31 := by decide
                        have q_277 := i_nle c_139
                        have k_278 : (1 : Int32).toInt = 1 := by decide
                        have t_279 := ti_add (a := pp) (b := 1) (by omega) (by omega)
                        try generalize Int32.toInt (tp pp.toNatClampNeg) = z0 at *
                        try generalize Int32.toInt (pp + 1) = z1 at *
                        try generalize Int32.toInt r_135 = z2 at *
                        try generalize Int32.toInt (31 : Int32) = z3 at *
                        try generalize Int32.toInt (35 : Int32) = z4 at *
                        try generalize Int32.toInt (44 : Int32) = z5 at *
                        try generalize Int32.toInt (59 : Int32) = z6 at *
                        try generalize Int32.toInt be = z7 at *
                        try generalize Int32.toInt mn = z8 at *
                        try generalize Int32.toInt mo = z9 at *
                        try generalize Int32.toInt nn = z10 at *
                        try generalize Int32.toInt pp = z11 at *
                        try generalize Int32.toInt sh = z12 at *
                        try generalize Int32.toInt (0 : Int32) = z13 at *
                        try generalize Int32.toInt (1 : Int32) = z14 at *
                        try generalize Int32.toInt x = z15 at *
                        omega
                      have v_280 : ((pp + 1)).toInt ≤ nn.toInt := by
                        have k_281 : (0 : Int32).toInt = 0 := by decide
                        have q_282 := i_ne c_1
                        have q_283 := i_ne c_84
                        have k_284 : (44 : Int32).toInt = 44 := by decide
                        have q_285 := i_ne c_101
                        have k_286 : (59 : Int32).toInt = 59 := by decide
                        have q_287 := i_ne c_124
                        have q_288 := i_le c_136
                        have k_289 : (35 : Int32).toInt = 35 := by decide
                        have q_290 := i_le c_137
                        have q_291 := i_ne c_138
                        have k_292 : (31 : Int32).toInt = 31 := by decide
                        have q_293 := i_nle c_139
                        have k_294 : (1 : Int32).toInt = 1 := by decide
                        have t_295 := ti_add (a := pp) (b := 1) (by omega) (by omega)
                        try generalize Int32.toInt (tp pp.toNatClampNeg) = z0 at *
                        try generalize Int32.toInt (pp + 1) = z1 at *
                        try generalize Int32.toInt r_135 = z2 at *
                        try generalize Int32.toInt (31 : Int32) = z3 at *
                        try generalize Int32.toInt (35 : Int32) = z4 at *
                        try generalize Int32.toInt (44 : Int32) = z5 at *
                        try generalize Int32.toInt (59 : Int32) = z6 at *
                        try generalize Int32.toInt be = z7 at *
                        try generalize Int32.toInt mn = z8 at *
                        try generalize Int32.toInt mo = z9 at *
                        try generalize Int32.toInt nn = z10 at *
                        try generalize Int32.toInt pp = z11 at *
                        try generalize Int32.toInt sh = z12 at *
                        try generalize Int32.toInt (0 : Int32) = z13 at *
                        try generalize Int32.toInt (1 : Int32) = z14 at *
                        try generalize Int32.toInt x = z15 at *
                        omega
                      have v_296 : (1 : Int32).toInt = 0 → x.toInt < ((pp + 1)).toInt := by
                        have k_297 : (0 : Int32).toInt = 0 := by decide
                        have q_298 := i_ne c_1
                        have q_299 := i_ne c_84
                        have k_300 : (44 : Int32).toInt = 44 := by decide
                        have q_301 := i_ne c_101
                        have k_302 : (59 : Int32).toInt = 59 := by decide
                        have q_303 := i_ne c_124
                        have q_304 := i_le c_136
                        have k_305 : (35 : Int32).toInt = 35 := by decide
                        have q_306 := i_le c_137
                        have q_307 := i_ne c_138
                        have k_308 : (31 : Int32).toInt = 31 := by decide
                        have q_309 := i_nle c_139
                        have k_310 : (1 : Int32).toInt = 1 := by decide
                        have t_311 := ti_add (a := pp) (b := 1) (by omega) (by omega)
                        try generalize Int32.toInt (tp pp.toNatClampNeg) = z0 at *
                        try generalize Int32.toInt (pp + 1) = z1 at *
                        try generalize Int32.toInt r_135 = z2 at *
                        try generalize Int32.toInt (31 : Int32) = z3 at *
                        try generalize Int32.toInt (35 : Int32) = z4 at *
                        try generalize Int32.toInt (44 : Int32) = z5 at *
                        try generalize Int32.toInt (59 : Int32) = z6 at *
                        try generalize Int32.toInt be = z7 at *
                        try generalize Int32.toInt mn = z8 at *
                        try generalize Int32.toInt mo = z9 at *
                        try generalize Int32.toInt nn = z10 at *
                        try generalize Int32.toInt pp = z11 at *
                        try generalize Int32.toInt sh = z12 at *
                        try generalize Int32.toInt (0 : Int32) = z13 at *
                        try generalize Int32.toInt (1 : Int32) = z14 at *
                        try generalize Int32.toInt x = z15 at *
                        omega
                      have v_312 : 0 ≤ ((sh + 5)).toInt := by
                        have k_313 : (0 : Int32).toInt = 0 := by decide
                        have q_314 := i_ne c_1
                        have q_315 := i_ne c_84
                        have k_316 : (44 : Int32).toInt = 44 := by decide
                        have q_317 := i_ne c_101
                        have k_318 : (59 : Int32).toInt = 59 := by decide
                        have q_319 := i_ne c_124
                        have q_320 := i_le c_136
                        have k_321 : (35 : Int32).toInt = 35 := by decide
                        have q_322 := i_le c_137
                        have q_323 := i_ne c_138
                        have k_324 : (31 : Int32).toInt = 31 := by decide
                        have q_325 := i_nle c_139
                        have k_326 : (5 : Int32).toInt = 5 := by decide
                        have t_327 := ti_add (a := sh) (b := 5) (by omega) (by omega)
                        try generalize Int32.toInt (tp pp.toNatClampNeg) = z0 at *
                        try generalize Int32.toInt (sh + 5) = z1 at *
                        try generalize Int32.toInt r_135 = z2 at *
                        try generalize Int32.toInt (31 : Int32) = z3 at *
                        try generalize Int32.toInt (35 : Int32) = z4 at *
                        try generalize Int32.toInt (44 : Int32) = z5 at *
                        try generalize Int32.toInt (59 : Int32) = z6 at *
                        try generalize Int32.toInt be = z7 at *
                        try generalize Int32.toInt mn = z8 at *
                        try generalize Int32.toInt mo = z9 at *
                        try generalize Int32.toInt nn = z10 at *
                        try generalize Int32.toInt pp = z11 at *
                        try generalize Int32.toInt sh = z12 at *
                        try generalize Int32.toInt (0 : Int32) = z13 at *
                        try generalize Int32.toInt (5 : Int32) = z14 at *
                        try generalize Int32.toInt x = z15 at *
                        omega
                      have v_328 : ((sh + 5)).toInt ≤ 5 * (((pp + 1)).toInt - x.toInt) := by
                        have k_329 : (0 : Int32).toInt = 0 := by decide
                        have q_330 := i_ne c_1
                        have q_331 := i_ne c_84
                        have k_332 : (44 : Int32).toInt = 44 := by decide
                        have q_333 := i_ne c_101
                        have k_334 : (59 : Int32).toInt = 59 := by decide
                        have q_335 := i_ne c_124
                        have q_336 := i_le c_136
                        have k_337 : (35 : Int32).toInt = 35 := by decide
                        have q_338 := i_le c_137
                        have q_339 := i_ne c_138
                        have k_340 : (31 : Int32).toInt = 31 := by decide
                        have q_341 := i_nle c_139
                        have k_342 : (5 : Int32).toInt = 5 := by decide
                        have t_343 := ti_add (a := sh) (b := 5) (by omega) (by omega)
                        have k_344 : (1 : Int32).toInt = 1 := by decide
                        have t_345 := ti_add (a := pp) (b := 1) (by omega) (by omega)
                        try generalize Int32.toInt (tp pp.toNatClampNeg) = z0 at *
                        try generalize Int32.toInt (pp + 1) = z1 at *
                        try generalize Int32.toInt (sh + 5) = z2 at *
                        try generalize Int32.toInt r_135 = z3 at *
                        try generalize Int32.toInt (31 : Int32) = z4 at *
                        try generalize Int32.toInt (35 : Int32) = z5 at *
                        try generalize Int32.toInt (44 : Int32) = z6 at *
                        try generalize Int32.toInt (59 : Int32) = z7 at *
                        try generalize Int32.toInt be = z8 at *
                        try generalize Int32.toInt mn = z9 at *
                        try generalize Int32.toInt mo = z10 at *
                        try generalize Int32.toInt nn = z11 at *
                        try generalize Int32.toInt pp = z12 at *
                        try generalize Int32.toInt sh = z13 at *
                        try generalize Int32.toInt (0 : Int32) = z14 at *
                        try generalize Int32.toInt (1 : Int32) = z15 at *
                        try generalize Int32.toInt (5 : Int32) = z16 at *
                        try generalize Int32.toInt x = z17 at *
                        omega
                      have v_346 : nn.toInt - ((pp + 1)).toInt + 1 < ((n : Nat) : Int) := by
                        have k_347 : (0 : Int32).toInt = 0 := by decide
                        have q_348 := i_ne c_1
                        have q_349 := i_ne c_84
                        have k_350 : (44 : Int32).toInt = 44 := by decide
                        have q_351 := i_ne c_101
                        have k_352 : (59 : Int32).toInt = 59 := by decide
                        have q_353 := i_ne c_124
                        have q_354 := i_le c_136
                        have k_355 : (35 : Int32).toInt = 35 := by decide
                        have q_356 := i_le c_137
                        have q_357 := i_ne c_138
                        have k_358 : (31 : Int32).toInt = 31 := by decide
                        have q_359 := i_nle c_139
                        have k_360 : (1 : Int32).toInt = 1 := by decide
                        have t_361 := ti_add (a := pp) (b := 1) (by omega) (by omega)
                        try generalize Int32.toInt (tp pp.toNatClampNeg) = z0 at *
                        try generalize Int32.toInt (pp + 1) = z1 at *
                        try generalize Int32.toInt r_135 = z2 at *
                        try generalize Int32.toInt (31 : Int32) = z3 at *
                        try generalize Int32.toInt (35 : Int32) = z4 at *
                        try generalize Int32.toInt (44 : Int32) = z5 at *
                        try generalize Int32.toInt (59 : Int32) = z6 at *
                        try generalize Int32.toInt be = z7 at *
                        try generalize Int32.toInt mn = z8 at *
                        try generalize Int32.toInt mo = z9 at *
                        try generalize Int32.toInt nn = z10 at *
                        try generalize Int32.toInt pp = z11 at *
                        try generalize Int32.toInt sh = z12 at *
                        try generalize Int32.toInt (0 : Int32) = z13 at *
                        try generalize Int32.toInt (1 : Int32) = z14 at *
                        try generalize Int32.toInt x = z15 at *
                        omega
                      exact ih (v) ((sh + 5)) (1) ((pp + 1)) (1) _ _ ls hR v_264 v_280 v_296 v_312 v_328 v_346 hP hD hS (lv_sub hl [6, 7, 8, 9, 2, 3, 0, 1] rfl)
                  · rw [if_pos c_138] at hR
                    refine lv_lload hx hb dX9_number_117 (lv_at hl 0 rfl) ?_
                    refine lv_lconst (v := 0) hx hb dX9_number_119 (by decide) ?_
                    refine W.lcmp hx hb dX9_number_120 ?_
                    refine lv_if_eq (tgt := 128) hx hb dX9_number_121 (by decide) (fun c_362 => ?_) (fun c_362 => ?_)
                    · rw [if_pos c_362] at hR
                      refine lv_iconst (v := 0) hx hb dX9_number_128 (by decide) ?_
                      refine lv_istore (lv' := [(6, .int 0), (10, .long (((r_135 &&& 31) : Int32).toInt64)), (9, .int r_135), (0, .ref h0), (1, .int x), (2, .int nn), (3, .long v), (5, .int sh), (7, .int pp), (8, .int mo)]) hx hb dX9_number_129 hl (by decide) rfl (fun ls hl => ?_)
                      refine lv_iinc (v := (sh + 5)) (lv' := [(5, .int (sh + 5)), (6, .int 0), (10, .long (((r_135 &&& 31) : Int32).toInt64)), (9, .int r_135), (0, .ref h0), (1, .int x), (2, .int nn), (3, .long v), (7, .int pp), (8, .int mo)]) hx hb dX9_number_131 hl (k := 7) rfl rfl (by decide) rfl (fun ls hl => ?_)
                      refine lv_iload hx hb dX9_number_134 (lv_at hl 3 rfl) ?_
                      refine lv_bipush (v := 31) hx hb dX9_number_136 (by decide) ?_
                      refine lv_icmp_le (tgt := 145) hx hb dX9_number_138 (by decide) (fun c_363 => ?_) (fun c_363 => ?_)
                      · rw [if_pos c_363] at hR
                        refine lv_iconst (v := 0) hx hb dX9_number_145 (by decide) ?_
                        refine lv_istore (lv' := [(8, .int 0), (5, .int (sh + 5)), (6, .int 0), (10, .long (((r_135 &&& 31) : Int32).toInt64)), (9, .int r_135), (0, .ref h0), (1, .int x), (2, .int nn), (3, .long v), (7, .int pp)]) hx hb dX9_number_146 hl (by decide) rfl (fun ls hl => ?_)
                        refine lv_iinc (v := (pp + 1)) (lv' := [(7, .int (pp + 1)), (8, .int 0), (5, .int (sh + 5)), (6, .int 0), (10, .long (((r_135 &&& 31) : Int32).toInt64)), (9, .int r_135), (0, .ref h0), (1, .int x), (2, .int nn), (3, .long v)]) hx hb dX9_number_148 hl (k := 9) rfl rfl (by decide) rfl (fun ls hl => ?_)
                        refine lv_goto (tgt := 14) hx hb dX9_number_151 (by decide) ?_
                        have v_377 : x.toInt ≤ ((pp + 1)).toInt := by
                          have k_378 : (0 : Int32).toInt = 0 := by decide
                          have q_379 := i_ne c_1
                          have q_380 := i_ne c_84
                          have k_381 : (44 : Int32).toInt = 44 := by decide
                          have q_382 := i_ne c_101
                          have k_383 : (59 : Int32).toInt = 59 := by decide
                          have q_384 := i_ne c_124
                          have q_385 := i_le c_136
                          have k_386 : (35 : Int32).toInt = 35 := by decide
                          have q_387 := i_le c_137
                          have q_388 := i_eq c_138
                          have k_389 : (31 : Int32).toInt = 31 := by decide
                          have q_390 := i_le c_363
                          have k_391 : (1 : Int32).toInt = 1 := by decide
                          have t_392 := ti_add (a := pp) (b := 1) (by omega) (by omega)
                          try generalize Int32.toInt (tp pp.toNatClampNeg) = z0 at *
                          try generalize Int32.toInt (pp + 1) = z1 at *
                          try generalize Int32.toInt r_135 = z2 at *
                          try generalize Int32.toInt (31 : Int32) = z3 at *
                          try generalize Int32.toInt (35 : Int32) = z4 at *
                          try generalize Int32.toInt (44 : Int32) = z5 at *
                          try generalize Int32.toInt (59 : Int32) = z6 at *
                          try generalize Int32.toInt be = z7 at *
                          try generalize Int32.toInt mn = z8 at *
                          try generalize Int32.toInt mo = z9 at *
                          try generalize Int32.toInt nn = z10 at *
                          try generalize Int32.toInt pp = z11 at *
                          try generalize Int32.toInt sh = z12 at *
                          try generalize Int32.toInt (0 : Int32) = z13 at *
                          try generalize Int32.toInt (1 : Int32) = z14 at *
                          try generalize Int32.toInt x = z15 at *
                          omega
                        have v_393 : ((pp + 1)).toInt ≤ nn.toInt := by
                          have k_394 : (0 : Int32).toInt = 0 := by decide
                          have q_395 := i_ne c_1
                          have q_396 := i_ne c_84
                          have k_397 : (44 : Int32).toInt = 44 := by decide
                          have q_398 := i_ne c_101
                          have k_399 : (59 : Int32).toInt = 59 := by decide
                          have q_400 := i_ne c_124
                          have q_401 := i_le c_136
                          have k_402 : (35 : Int32).toInt = 35 := by decide
                          have q_403 := i_le c_137
                          have q_404 := i_eq c_138
                          have k_405 : (31 : Int32).toInt = 31 := by decide
                          have q_406 := i_le c_363
                          have k_407 : (1 : Int32).toInt = 1 := by decide
                          have t_408 := ti_add (a := pp) (b := 1) (by omega) (by omega)
                          try generalize Int32.toInt (tp pp.toNatClampNeg) = z0 at *
                          try generalize Int32.toInt (pp + 1) = z1 at *
                          try generalize Int32.toInt r_135 = z2 at *
                          try generalize Int32.toInt (31 : Int32) = z3 at *
                          try generalize Int32.toInt (35 : Int32) = z4 at *
                          try generalize Int32.toInt (44 : Int32) = z5 at *
                          try generalize Int32.toInt (59 : Int32) = z6 at *
                          try generalize Int32.toInt be = z7 at *
                          try generalize Int32.toInt mn = z8 at *
                          try generalize Int32.toInt mo = z9 at *
                          try generalize Int32.toInt nn = z10 at *
                          try generalize Int32.toInt pp = z11 at *
                          try generalize Int32.toInt sh = z12 at *
                          try generalize Int32.toInt (0 : Int32) = z13 at *
                          try generalize Int32.toInt (1 : Int32) = z14 at *
                          try generalize Int32.toInt x = z15 at *
                          omega
                        have v_409 : (0 : Int32).toInt = 0 → x.toInt < ((pp + 1)).toInt := by
                          have k_410 : (0 : Int32).toInt = 0 := by decide
                          have q_411 := i_ne c_1
                          have q_412 := i_ne c_84
                          have k_413 : (44 : Int32).toInt = 44 := by decide
                          have q_414 := i_ne c_101
                          have k_415 : (59 : Int32).toInt = 59 := by decide
                          have q_416 := i_ne c_124
                          have q_417 := i_le c_136
                          have k_418 : (35 : Int32).toInt = 35 := by decide
                          have q_419 := i_le c_137
                          have q_420 := i_eq c_138
                          have k_421 : (31 : Int32).toInt = 31 := by decide
                          have q_422 := i_le c_363
                          have k_423 : (1 : Int32).toInt = 1 := by decide
                          have t_424 := ti_add (a := pp) (b := 1) (by omega) (by omega)
                          try generalize Int32.toInt (tp pp.toNatClampNeg) = z0 at *
                          try generalize Int32.toInt (pp + 1) = z1 at *
                          try generalize Int32.toInt r_135 = z2 at *
                          try generalize Int32.toInt (31 : Int32) = z3 at *
                          try generalize Int32.toInt (35 : Int32) = z4 at *
                          try generalize Int32.toInt (44 : Int32) = z5 at *
                          try generalize Int32.toInt (59 : Int32) = z6 at *
                          try generalize Int32.toInt be = z7 at *
                          try generalize Int32.toInt mn = z8 at *
                          try generalize Int32.toInt mo = z9 at *
                          try generalize Int32.toInt nn = z10 at *
                          try generalize Int32.toInt pp = z11 at *
                          try generalize Int32.toInt sh = z12 at *
                          try generalize Int32.toInt (0 : Int32) = z13 at *
                          try generalize Int32.toInt (1 : Int32) = z14 at *
                          try generalize Int32.toInt x = z15 at *
                          omega
                        have v_425 : 0 ≤ ((sh + 5)).toInt := by
                          have k_426 : (0 : Int32).toInt = 0 := by decide
                          have q_427 := i_ne c_1
                          have q_428 := i_ne c_84
                          have k_429 : (44 : Int32).toInt = 44 := by decide
                          have q_430 := i_ne c_101
                          have k_431 : (59 : Int32).toInt = 59 := by decide
                          have q_432 := i_ne c_124
                          have q_433 := i_le c_136
                          have k_434 : (35 : Int32).toInt = 35 := by decide
                          have q_435 := i_le c_137
                          have q_436 := i_eq c_138
                          have k_437 : (31 : Int32).toInt = 31 := by decide
                          have q_438 := i_le c_363
                          have k_439 : (5 : Int32).toInt = 5 := by decide
                          have t_440 := ti_add (a := sh) (b := 5) (by omega) (by omega)
                          try generalize Int32.toInt (tp pp.toNatClampNeg) = z0 at *
                          try generalize Int32.toInt (sh + 5) = z1 at *
                          try generalize Int32.toInt r_135 = z2 at *
                          try generalize Int32.toInt (31 : Int32) = z3 at *
                          try generalize Int32.toInt (35 : Int32) = z4 at *
                          try generalize Int32.toInt (44 : Int32) = z5 at *
                          try generalize Int32.toInt (59 : Int32) = z6 at *
                          try generalize Int32.toInt be = z7 at *
                          try generalize Int32.toInt mn = z8 at *
                          try generalize Int32.toInt mo = z9 at *
                          try generalize Int32.toInt nn = z10 at *
                          try generalize Int32.toInt pp = z11 at *
                          try generalize Int32.toInt sh = z12 at *
                          try generalize Int32.toInt (0 : Int32) = z13 at *
                          try generalize Int32.toInt (5 : Int32) = z14 at *
                          try generalize Int32.toInt x = z15 at *
                          omega
                        have v_441 : ((sh + 5)).toInt ≤ 5 * (((pp + 1)).toInt - x.toInt) := by
                          have k_442 : (0 : Int32).toInt = 0 := by decide
                          have q_443 := i_ne c_1
                          have q_444 := i_ne c_84
                          have k_445 : (44 : Int32).toInt = 44 := by decide
                          have q_446 := i_ne c_101
                          have k_447 : (59 : Int32).toInt = 59 := by decide
                          have q_448 := i_ne c_124
                          have q_449 := i_le c_136
                          have k_450 : (35 : Int32).toInt = 35 := by decide
                          have q_451 := i_le c_137
                          have q_452 := i_eq c_138
                          have k_453 : (31 : Int32).toInt = 31 := by decide
                          have q_454 := i_le c_363
                          have k_455 : (5 : Int32).toInt = 5 := by decide
                          have t_456 := ti_add (a := sh) (b := 5) (by omega) (by omega)
                          have k_457 : (1 : Int32).toInt = 1 := by decide
                          have t_458 := ti_add (a := pp) (b := 1) (by omega) (by omega)
                          try generalize Int32.toInt (tp pp.toNatClampNeg) = z0 at *
                          try generalize Int32.toInt (pp + 1) = z1 at *
                          try generalize Int32.toInt (sh + 5) = z2 at *
                          try generalize Int32.toInt r_135 = z3 at *
                          try generalize Int32.toInt (31 : Int32) = z4 at *
                          try generalize Int32.toInt (35 : Int32) = z5 at *
                          try generalize Int32.toInt (44 : Int32) = z6 at *
                          try generalize Int32.toInt (59 : Int32) = z7 at *
                          try generalize Int32.toInt be = z8 at *
                          try generalize Int32.toInt mn = z9 at *
                          try generalize Int32.toInt mo = z10 at *
                          try generalize Int32.toInt nn = z11 at *
                          try generalize Int32.toInt pp = z12 at *
                          try generalize Int32.toInt sh = z13 at *
                          try generalize Int32.toInt (0 : Int32) = z14 at *
                          try generalize Int32.toInt (1 : Int32) = z15 at *
                          try generalize Int32.toInt (5 : Int32) = z16 at *
                          try generalize Int32.toInt x = z17 at *
                          omega
                        have v_459 : nn.toInt - ((pp + 1)).toInt + 1 < ((n : Nat) : Int) := by
                          have k_460 : (0 : Int32).toInt = 0 := by decide
                          have q_461 := i_ne c_1
                          have q_462 := i_ne c_84
                          have k_463 : (44 : Int32).toInt = 44 := by decide
                          have q_464 := i_ne c_101
                          have k_465 : (59 : Int32).toInt = 59 := by decide
                          have q_466 := i_ne c_124
                          have q_467 := i_le c_136
                          have k_468 : (35 : Int32).toInt = 35 := by decide
                          have q_469 := i_le c_137
                          have q_470 := i_eq c_138
                          have k_471 : (31 : Int32).toInt = 31 := by decide
                          have q_472 := i_le c_363
                          have k_473 : (1 : Int32).toInt = 1 := by decide
                          have t_474 := ti_add (a := pp) (b := 1) (by omega) (by omega)
                          try generalize Int32.toInt (tp pp.toNatClampNeg) = z0 at *
                          try generalize Int32.toInt (pp + 1) = z1 at *
                          try generalize Int32.toInt r_135 = z2 at *
                          try generalize Int32.toInt (31 : Int32) = z3 at *
                          try generalize Int32.toInt (35 : Int32) = z4 at *
                          try generalize Int32.toInt (44 : Int32) = z5 at *
                          try generalize Int32.toInt (59 : Int32) = z6 at *
                          try generalize Int32.toInt be = z7 at *
                          try generalize Int32.toInt mn = z8 at *
                          try generalize Int32.toInt mo = z9 at *
                          try generalize Int32.toInt nn = z10 at *
                          try generalize Int32.toInt pp = z11 at *
                          try generalize Int32.toInt sh = z12 at *
                          try generalize Int32.toInt (0 : Int32) = z13 at *
                          try generalize Int32.toInt (1 : Int32) = z14 at *
                          try generalize Int32.toInt x = z15 at *
                          omega
                        exact ih (v) ((sh + 5)) (0) ((pp + 1)) (0) _ _ ls hR v_377 v_393 v_409 v_425 v_441 v_459 hP hD hS (lv_sub hl [6, 7, 8, 9, 2, 3, 0, 1] rfl)
                      · rw [if_neg c_363] at hR
                        refine lv_iconst (v := 1) hx hb dX9_number_141 (by decide) ?_
                        refine lv_goto (tgt := 146) hx hb dX9_number_142 (by decide) ?_
                        refine lv_istore (lv' := [(8, .int 1), (5, .int (sh + 5)), (6, .int 0), (10, .long (((r_135 &&& 31) : Int32).toInt64)), (9, .int r_135), (0, .ref h0), (1, .int x), (2, .int nn), (3, .long v), (7, .int pp)]) hx hb dX9_number_146 hl (by decide) rfl (fun ls hl => ?_)
                        refine lv_iinc (v := (pp + 1)) (lv' := [(7, .int (pp + 1)), (8, .int 1), (5, .int (sh + 5)), (6, .int 0), (10, .long (((r_135 &&& 31) : Int32).toInt64)), (9, .int r_135), (0, .ref h0), (1, .int x), (2, .int nn), (3, .long v)]) hx hb dX9_number_148 hl (k := 9) rfl rfl (by decide) rfl (fun ls hl => ?_)
                        refine lv_goto (tgt := 14) hx hb dX9_number_151 (by decide) ?_
                        have v_488 : x.toInt ≤ ((pp + 1)).toInt := by
                          have k_489 : (0 : Int32).toInt = 0 := by decide
                          have q_490 := i_ne c_1
                          have q_491 := i_ne c_84
                          have k_492 : (44 : Int32).toInt = 44 := by decide
                          have q_493 := i_ne c_101
                          have k_494 : (59 : Int32).toInt = 59 := by decide
                          have q_495 := i_ne c_124
                          have q_496 := i_le c_136
                          have k_497 : (35 : Int32).toInt = 35 := by decide
                          have q_498 := i_le c_137
                          have q_499 := i_eq c_138
                          have k_500 : (31 : Int32).toInt = 31 := by decide
                          have q_501 := i_nle c_363
                          have k_502 : (1 : Int32).toInt = 1 := by decide
                          have t_503 := ti_add (a := pp) (b := 1) (by omega) (by omega)
                          try generalize Int32.toInt (tp pp.toNatClampNeg) = z0 at *
                          try generalize Int32.toInt (pp + 1) = z1 at *
                          try generalize Int32.toInt r_135 = z2 at *
                          try generalize Int32.toInt (31 : Int32) = z3 at *
                          try generalize Int32.toInt (35 : Int32) = z4 at *
                          try generalize Int32.toInt (44 : Int32) = z5 at *
                          try generalize Int32.toInt (59 : Int32) = z6 at *
                          try generalize Int32.toInt be = z7 at *
                          try generalize Int32.toInt mn = z8 at *
                          try generalize Int32.toInt mo = z9 at *
                          try generalize Int32.toInt nn = z10 at *
                          try generalize Int32.toInt pp = z11 at *
                          try generalize Int32.toInt sh = z12 at *
                          try generalize Int32.toInt (0 : Int32) = z13 at *
                          try generalize Int32.toInt (1 : Int32) = z14 at *
                          try generalize Int32.toInt x = z15 at *
                          omega
                        have v_504 : ((pp + 1)).toInt ≤ nn.toInt := by
                          have k_505 : (0 : Int32).toInt = 0 := by decide
                          have q_506 := i_ne c_1
                          have q_507 := i_ne c_84
                          have k_508 : (44 : Int32).toInt = 44 := by decide
                          have q_509 := i_ne c_101
                          have k_510 : (59 : Int32).toInt = 59 := by decide
                          have q_511 := i_ne c_124
                          have q_512 := i_le c_136
                          have k_513 : (35 : Int32).toInt = 35 := by decide
                          have q_514 := i_le c_137
                          have q_515 := i_eq c_138
                          have k_516 : (31 : Int32).toInt = 31 := by decide
                          have q_517 := i_nle c_363
                          have k_518 : (1 : Int32).toInt = 1 := by decide
                          have t_519 := ti_add (a := pp) (b := 1) (by omega) (by omega)
                          try generalize Int32.toInt (tp pp.toNatClampNeg) = z0 at *
                          try generalize Int32.toInt (pp + 1) = z1 at *
                          try generalize Int32.toInt r_135 = z2 at *
                          try generalize Int32.toInt (31 : Int32) = z3 at *
                          try generalize Int32.toInt (35 : Int32) = z4 at *
                          try generalize Int32.toInt (44 : Int32) = z5 at *
                          try generalize Int32.toInt (59 : Int32) = z6 at *
                          try generalize Int32.toInt be = z7 at *
                          try generalize Int32.toInt mn = z8 at *
                          try generalize Int32.toInt mo = z9 at *
                          try generalize Int32.toInt nn = z10 at *
                          try generalize Int32.toInt pp = z11 at *
                          try generalize Int32.toInt sh = z12 at *
                          try generalize Int32.toInt (0 : Int32) = z13 at *
                          try generalize Int32.toInt (1 : Int32) = z14 at *
                          try generalize Int32.toInt x = z15 at *
                          omega
                        have v_520 : (1 : Int32).toInt = 0 → x.toInt < ((pp + 1)).toInt := by
                          have k_521 : (0 : Int32).toInt = 0 := by decide
                          have q_522 := i_ne c_1
                          have q_523 := i_ne c_84
                          have k_524 : (44 : Int32).toInt = 44 := by decide
                          have q_525 := i_ne c_101
                          have k_526 : (59 : Int32).toInt = 59 := by decide
                          have q_527 := i_ne c_124
                          have q_528 := i_le c_136
                          have k_529 : (35 : Int32).toInt = 35 := by decide
                          have q_530 := i_le c_137
                          have q_531 := i_eq c_138
                          have k_532 : (31 : Int32).toInt = 31 := by decide
                          have q_533 := i_nle c_363
                          have k_534 : (1 : Int32).toInt = 1 := by decide
                          have t_535 := ti_add (a := pp) (b := 1) (by omega) (by omega)
                          try generalize Int32.toInt (tp pp.toNatClampNeg) = z0 at *
                          try generalize Int32.toInt (pp + 1) = z1 at *
                          try generalize Int32.toInt r_135 = z2 at *
                          try generalize Int32.toInt (31 : Int32) = z3 at *
                          try generalize Int32.toInt (35 : Int32) = z4 at *
                          try generalize Int32.toInt (44 : Int32) = z5 at *
                          try generalize Int32.toInt (59 : Int32) = z6 at *
                          try generalize Int32.toInt be = z7 at *
                          try generalize Int32.toInt mn = z8 at *
                          try generalize Int32.toInt mo = z9 at *
                          try generalize Int32.toInt nn = z10 at *
                          try generalize Int32.toInt pp = z11 at *
                          try generalize Int32.toInt sh = z12 at *
                          try generalize Int32.toInt (0 : Int32) = z13 at *
                          try generalize Int32.toInt (1 : Int32) = z14 at *
                          try generalize Int32.toInt x = z15 at *
                          omega
                        have v_536 : 0 ≤ ((sh + 5)).toInt := by
                          have k_537 : (0 : Int32).toInt = 0 := by decide
                          have q_538 := i_ne c_1
                          have q_539 := i_ne c_84
                          have k_540 : (44 : Int32).toInt = 44 := by decide
                          have q_541 := i_ne c_101
                          have k_542 : (59 : Int32).toInt = 59 := by decide
                          have q_543 := i_ne c_124
                          have q_544 := i_le c_136
                          have k_545 : (35 : Int32).toInt = 35 := by decide
                          have q_546 := i_le c_137
                          have q_547 := i_eq c_138
                          have k_548 : (31 : Int32).toInt = 31 := by decide
                          have q_549 := i_nle c_363
                          have k_550 : (5 : Int32).toInt = 5 := by decide
                          have t_551 := ti_add (a := sh) (b := 5) (by omega) (by omega)
                          try generalize Int32.toInt (tp pp.toNatClampNeg) = z0 at *
                          try generalize Int32.toInt (sh + 5) = z1 at *
                          try generalize Int32.toInt r_135 = z2 at *
                          try generalize Int32.toInt (31 : Int32) = z3 at *
                          try generalize Int32.toInt (35 : Int32) = z4 at *
                          try generalize Int32.toInt (44 : Int32) = z5 at *
                          try generalize Int32.toInt (59 : Int32) = z6 at *
                          try generalize Int32.toInt be = z7 at *
                          try generalize Int32.toInt mn = z8 at *
                          try generalize Int32.toInt mo = z9 at *
                          try generalize Int32.toInt nn = z10 at *
                          try generalize Int32.toInt pp = z11 at *
                          try generalize Int32.toInt sh = z12 at *
                          try generalize Int32.toInt (0 : Int32) = z13 at *
                          try generalize Int32.toInt (5 : Int32) = z14 at *
                          try generalize Int32.toInt x = z15 at *
                          omega
                        have v_552 : ((sh + 5)).toInt ≤ 5 * (((pp + 1)).toInt - x.toInt) := by
                          have k_553 : (0 : Int32).toInt = 0 := by decide
                          have q_554 := i_ne c_1
                          have q_555 := i_ne c_84
                          have k_556 : (44 : Int32).toInt = 44 := by decide
                          have q_557 := i_ne c_101
                          have k_558 : (59 : Int32).toInt = 59 := by decide
                          have q_559 := i_ne c_124
                          have q_560 := i_le c_136
                          have k_561 : (35 : Int32).toInt = 35 := by decide
                          have q_562 := i_le c_137
                          have q_563 := i_eq c_138
                          have k_564 : (31 : Int32).toInt = 31 := by decide
                          have q_565 := i_nle c_363
                          have k_566 : (5 : Int32).toInt = 5 := by decide
                          have t_567 := ti_add (a := sh) (b := 5) (by omega) (by omega)
                          have k_568 : (1 : Int32).toInt = 1 := by decide
                          have t_569 := ti_add (a := pp) (b := 1) (by omega) (by omega)
                          try generalize Int32.toInt (tp pp.toNatClampNeg) = z0 at *
                          try generalize Int32.toInt (pp + 1) = z1 at *
                          try generalize Int32.toInt (sh + 5) = z2 at *
                          try generalize Int32.toInt r_135 = z3 at *
                          try generalize Int32.toInt (31 : Int32) = z4 at *
                          try generalize Int32.toInt (35 : Int32) = z5 at *
                          try generalize Int32.toInt (44 : Int32) = z6 at *
                          try generalize Int32.toInt (59 : Int32) = z7 at *
                          try generalize Int32.toInt be = z8 at *
                          try generalize Int32.toInt mn = z9 at *
                          try generalize Int32.toInt mo = z10 at *
                          try generalize Int32.toInt nn = z11 at *
                          try generalize Int32.toInt pp = z12 at *
                          try generalize Int32.toInt sh = z13 at *
                          try generalize Int32.toInt (0 : Int32) = z14 at *
                          try generalize Int32.toInt (1 : Int32) = z15 at *
                          try generalize Int32.toInt (5 : Int32) = z16 at *
                          try generalize Int32.toInt x = z17 at *
                          omega
                        have v_570 : nn.toInt - ((pp + 1)).toInt + 1 < ((n : Nat) : Int) := by
                          have k_571 : (0 : Int32).toInt = 0 := by decide
                          have q_572 := i_ne c_1
                          have q_573 := i_ne c_84
                          have k_574 : (44 : Int32).toInt = 44 := by decide
                          have q_575 := i_ne c_101
                          have k_576 : (59 : Int32).toInt = 59 := by decide
                          have q_577 := i_ne c_124
                          have q_578 := i_le c_136
                          have k_579 : (35 : Int32).toInt = 35 := by decide
                          have q_580 := i_le c_137
                          have q_581 := i_eq c_138
                          have k_582 : (31 : Int32).toInt = 31 := by decide
                          have q_583 := i_nle c_363
                          have k_584 : (1 : Int32).toInt = 1 := by decide
                          have t_585 := ti_add (a := pp) (b := 1) (by omega) (by omega)
                          try generalize Int32.toInt (tp pp.toNatClampNeg) = z0 at *
                          try generalize Int32.toInt (pp + 1) = z1 at *
                          try generalize Int32.toInt r_135 = z2 at *
                          try generalize Int32.toInt (31 : Int32) = z3 at *
                          try generalize Int32.toInt (35 : Int32) = z4 at *
                          try generalize Int32.toInt (44 : Int32) = z5 at *
                          try generalize Int32.toInt (59 : Int32) = z6 at *
                          try generalize Int32.toInt be = z7 at *
                          try generalize Int32.toInt mn = z8 at *
                          try generalize Int32.toInt mo = z9 at *
                          try generalize Int32.toInt nn = z10 at *
                          try generalize Int32.toInt pp = z11 at *
                          try generalize Int32.toInt sh = z12 at *
                          try generalize Int32.toInt (0 : Int32) = z13 at *
                          try generalize Int32.toInt (1 : Int32) = z14 at *
                          try generalize Int32.toInt x = z15 at *
                          omega
                        exact ih (v) ((sh + 5)) (0) ((pp + 1)) (1) _ _ ls hR v_488 v_504 v_520 v_536 v_552 v_570 hP hD hS (lv_sub hl [6, 7, 8, 9, 2, 3, 0, 1] rfl)
                    · rw [if_neg c_362] at hR
                      refine lv_iconst (v := 1) hx hb dX9_number_124 (by decide) ?_
                      refine lv_goto (tgt := 129) hx hb dX9_number_125 (by decide) ?_
                      refine lv_istore (lv' := [(6, .int 1), (10, .long (((r_135 &&& 31) : Int32).toInt64)), (9, .int r_135), (0, .ref h0), (1, .int x), (2, .int nn), (3, .long v), (5, .int sh), (7, .int pp), (8, .int mo)]) hx hb dX9_number_129 hl (by decide) rfl (fun ls hl => ?_)
                      refine lv_iinc (v := (sh + 5)) (lv' := [(5, .int (sh + 5)), (6, .int 1), (10, .long (((r_135 &&& 31) : Int32).toInt64)), (9, .int r_135), (0, .ref h0), (1, .int x), (2, .int nn), (3, .long v), (7, .int pp), (8, .int mo)]) hx hb dX9_number_131 hl (k := 7) rfl rfl (by decide) rfl (fun ls hl => ?_)
                      refine lv_iload hx hb dX9_number_134 (lv_at hl 3 rfl) ?_
                      refine lv_bipush (v := 31) hx hb dX9_number_136 (by decide) ?_
                      refine lv_icmp_le (tgt := 145) hx hb dX9_number_138 (by decide) (fun c_586 => ?_) (fun c_586 => ?_)
                      · rw [if_pos c_586] at hR
                        refine lv_iconst (v := 0) hx hb dX9_number_145 (by decide) ?_
                        refine lv_istore (lv' := [(8, .int 0), (5, .int (sh + 5)), (6, .int 1), (10, .long (((r_135 &&& 31) : Int32).toInt64)), (9, .int r_135), (0, .ref h0), (1, .int x), (2, .int nn), (3, .long v), (7, .int pp)]) hx hb dX9_number_146 hl (by decide) rfl (fun ls hl => ?_)
                        refine lv_iinc (v := (pp + 1)) (lv' := [(7, .int (pp + 1)), (8, .int 0), (5, .int (sh + 5)), (6, .int 1), (10, .long (((r_135 &&& 31) : Int32).toInt64)), (9, .int r_135), (0, .ref h0), (1, .int x), (2, .int nn), (3, .long v)]) hx hb dX9_number_148 hl (k := 9) rfl rfl (by decide) rfl (fun ls hl => ?_)
                        refine lv_goto (tgt := 14) hx hb dX9_number_151 (by decide) ?_
                        have v_600 : x.toInt ≤ ((pp + 1)).toInt := by
                          have k_601 : (0 : Int32).toInt = 0 := by decide
                          have q_602 := i_ne c_1
                          have q_603 := i_ne c_84
                          have k_604 : (44 : Int32).toInt = 44 := by decide
                          have q_605 := i_ne c_101
                          have k_606 : (59 : Int32).toInt = 59 := by decide
                          have q_607 := i_ne c_124
                          have q_608 := i_le c_136
                          have k_609 : (35 : Int32).toInt = 35 := by decide
                          have q_610 := i_le c_137
                          have q_611 := i_eq c_138
                          have k_612 : (31 : Int32).toInt = 31 := by decide
                          have q_613 := i_le c_586
                          have k_614 : (1 : Int32).toInt = 1 := by decide
                          have t_615 := ti_add (a := pp) (b := 1) (by omega) (by omega)
                          try generalize Int32.toInt (tp pp.toNatClampNeg) = z0 at *
                          try generalize Int32.toInt (pp + 1) = z1 at *
                          try generalize Int32.toInt r_135 = z2 at *
                          try generalize Int32.toInt (31 : Int32) = z3 at *
                          try generalize Int32.toInt (35 : Int32) = z4 at *
                          try generalize Int32.toInt (44 : Int32) = z5 at *
                          try generalize Int32.toInt (59 : Int32) = z6 at *
                          try generalize Int32.toInt be = z7 at *
                          try generalize Int32.toInt mn = z8 at *
                          try generalize Int32.toInt mo = z9 at *
                          try generalize Int32.toInt nn = z10 at *
                          try generalize Int32.toInt pp = z11 at *
                          try generalize Int32.toInt sh = z12 at *
                          try generalize Int32.toInt (0 : Int32) = z13 at *
                          try generalize Int32.toInt (1 : Int32) = z14 at *
                          try generalize Int32.toInt x = z15 at *
                          omega
                        have v_616 : ((pp + 1)).toInt ≤ nn.toInt := by
                          have k_617 : (0 : Int32).toInt = 0 := by decide
                          have q_618 := i_ne c_1
                          have q_619 := i_ne c_84
                          have k_620 : (44 : Int32).toInt = 44 := by decide
                          have q_621 := i_ne c_101
                          have k_622 : (59 : Int32).toInt = 59 := by decide
                          have q_623 := i_ne c_124
                          have q_624 := i_le c_136
                          have k_625 : (35 : Int32).toInt = 35 := by decide
                          have q_626 := i_le c_137
                          have q_627 := i_eq c_138
                          have k_628 : (31 : Int32).toInt = 31 := by decide
                          have q_629 := i_le c_586
                          have k_630 : (1 : Int32).toInt = 1 := by decide
                          have t_631 := ti_add (a := pp) (b := 1) (by omega) (by omega)
                          try generalize Int32.toInt (tp pp.toNatClampNeg) = z0 at *
                          try generalize Int32.toInt (pp + 1) = z1 at *
                          try generalize Int32.toInt r_135 = z2 at *
                          try generalize Int32.toInt (31 : Int32) = z3 at *
                          try generalize Int32.toInt (35 : Int32) = z4 at *
                          try generalize Int32.toInt (44 : Int32) = z5 at *
                          try generalize Int32.toInt (59 : Int32) = z6 at *
                          try generalize Int32.toInt be = z7 at *
                          try generalize Int32.toInt mn = z8 at *
                          try generalize Int32.toInt mo = z9 at *
                          try generalize Int32.toInt nn = z10 at *
                          try generalize Int32.toInt pp = z11 at *
                          try generalize Int32.toInt sh = z12 at *
                          try generalize Int32.toInt (0 : Int32) = z13 at *
                          try generalize Int32.toInt (1 : Int32) = z14 at *
                          try generalize Int32.toInt x = z15 at *
                          omega
                        have v_632 : (0 : Int32).toInt = 0 → x.toInt < ((pp + 1)).toInt := by
                          have k_633 : (0 : Int32).toInt = 0 := by decide
                          have q_634 := i_ne c_1
                          have q_635 := i_ne c_84
                          have k_636 : (44 : Int32).toInt = 44 := by decide
                          have q_637 := i_ne c_101
                          have k_638 : (59 : Int32).toInt = 59 := by decide
                          have q_639 := i_ne c_124
                          have q_640 := i_le c_136
                          have k_641 : (35 : Int32).toInt = 35 := by decide
                          have q_642 := i_le c_137
                          have q_643 := i_eq c_138
                          have k_644 : (31 : Int32).toInt = 31 := by decide
                          have q_645 := i_le c_586
                          have k_646 : (1 : Int32).toInt = 1 := by decide
                          have t_647 := ti_add (a := pp) (b := 1) (by omega) (by omega)
                          try generalize Int32.toInt (tp pp.toNatClampNeg) = z0 at *
                          try generalize Int32.toInt (pp + 1) = z1 at *
                          try generalize Int32.toInt r_135 = z2 at *
                          try generalize Int32.toInt (31 : Int32) = z3 at *
                          try generalize Int32.toInt (35 : Int32) = z4 at *
                          try generalize Int32.toInt (44 : Int32) = z5 at *
                          try generalize Int32.toInt (59 : Int32) = z6 at *
                          try generalize Int32.toInt be = z7 at *
                          try generalize Int32.toInt mn = z8 at *
                          try generalize Int32.toInt mo = z9 at *
                          try generalize Int32.toInt nn = z10 at *
                          try generalize Int32.toInt pp = z11 at *
                          try generalize Int32.toInt sh = z12 at *
                          try generalize Int32.toInt (0 : Int32) = z13 at *
                          try generalize Int32.toInt (1 : Int32) = z14 at *
                          try generalize Int32.toInt x = z15 at *
                          omega
                        have v_648 : 0 ≤ ((sh + 5)).toInt := by
                          have k_649 : (0 : Int32).toInt = 0 := by decide
                          have q_650 := i_ne c_1
                          have q_651 := i_ne c_84
                          have k_652 : (44 : Int32).toInt = 44 := by decide
                          have q_653 := i_ne c_101
                          have k_654 : (59 : Int32).toInt = 59 := by decide
                          have q_655 := i_ne c_124
                          have q_656 := i_le c_136
                          have k_657 : (35 : Int32).toInt = 35 := by decide
                          have q_658 := i_le c_137
                          have q_659 := i_eq c_138
                          have k_660 : (31 : Int32).toInt = 31 := by decide
                          have q_661 := i_le c_586
                          have k_662 : (5 : Int32).toInt = 5 := by decide
                          have t_663 := ti_add (a := sh) (b := 5) (by omega) (by omega)
                          try generalize Int32.toInt (tp pp.toNatClampNeg) = z0 at *
                          try generalize Int32.toInt (sh + 5) = z1 at *
                          try generalize Int32.toInt r_135 = z2 at *
                          try generalize Int32.toInt (31 : Int32) = z3 at *
                          try generalize Int32.toInt (35 : Int32) = z4 at *
                          try generalize Int32.toInt (44 : Int32) = z5 at *
                          try generalize Int32.toInt (59 : Int32) = z6 at *
                          try generalize Int32.toInt be = z7 at *
                          try generalize Int32.toInt mn = z8 at *
                          try generalize Int32.toInt mo = z9 at *
                          try generalize Int32.toInt nn = z10 at *
                          try generalize Int32.toInt pp = z11 at *
                          try generalize Int32.toInt sh = z12 at *
                          try generalize Int32.toInt (0 : Int32) = z13 at *
                          try generalize Int32.toInt (5 : Int32) = z14 at *
                          try generalize Int32.toInt x = z15 at *
                          omega
                        have v_664 : ((sh + 5)).toInt ≤ 5 * (((pp + 1)).toInt - x.toInt) := by
                          have k_665 : (0 : Int32).toInt = 0 := by decide
                          have q_666 := i_ne c_1
                          have q_667 := i_ne c_84
                          have k_668 : (44 : Int32).toInt = 44 := by decide
                          have q_669 := i_ne c_101
                          have k_670 : (59 : Int32).toInt = 59 := by decide
                          have q_671 := i_ne c_124
                          have q_672 := i_le c_136
                          have k_673 : (35 : Int32).toInt = 35 := by decide
                          have q_674 := i_le c_137
                          have q_675 := i_eq c_138
                          have k_676 : (31 : Int32).toInt = 31 := by decide
                          have q_677 := i_le c_586
                          have k_678 : (5 : Int32).toInt = 5 := by decide
                          have t_679 := ti_add (a := sh) (b := 5) (by omega) (by omega)
                          have k_680 : (1 : Int32).toInt = 1 := by decide
                          have t_681 := ti_add (a := pp) (b := 1) (by omega) (by omega)
                          try generalize Int32.toInt (tp pp.toNatClampNeg) = z0 at *
                          try generalize Int32.toInt (pp + 1) = z1 at *
                          try generalize Int32.toInt (sh + 5) = z2 at *
                          try generalize Int32.toInt r_135 = z3 at *
                          try generalize Int32.toInt (31 : Int32) = z4 at *
                          try generalize Int32.toInt (35 : Int32) = z5 at *
                          try generalize Int32.toInt (44 : Int32) = z6 at *
                          try generalize Int32.toInt (59 : Int32) = z7 at *
                          try generalize Int32.toInt be = z8 at *
                          try generalize Int32.toInt mn = z9 at *
                          try generalize Int32.toInt mo = z10 at *
                          try generalize Int32.toInt nn = z11 at *
                          try generalize Int32.toInt pp = z12 at *
                          try generalize Int32.toInt sh = z13 at *
                          try generalize Int32.toInt (0 : Int32) = z14 at *
                          try generalize Int32.toInt (1 : Int32) = z15 at *
                          try generalize Int32.toInt (5 : Int32) = z16 at *
                          try generalize Int32.toInt x = z17 at *
                          omega
                        have v_682 : nn.toInt - ((pp + 1)).toInt + 1 < ((n : Nat) : Int) := by
                          have k_683 : (0 : Int32).toInt = 0 := by decide
                          have q_684 := i_ne c_1
                          have q_685 := i_ne c_84
                          have k_686 : (44 : Int32).toInt = 44 := by decide
                          have q_687 := i_ne c_101
                          have k_688 : (59 : Int32).toInt = 59 := by decide
                          have q_689 := i_ne c_124
                          have q_690 := i_le c_136
                          have k_691 : (35 : Int32).toInt = 35 := by decide
                          have q_692 := i_le c_137
                          have q_693 := i_eq c_138
                          have k_694 : (31 : Int32).toInt = 31 := by decide
                          have q_695 := i_le c_586
                          have k_696 : (1 : Int32).toInt = 1 := by decide
                          have t_697 := ti_add (a := pp) (b := 1) (by omega) (by omega)
                          try generalize Int32.toInt (tp pp.toNatClampNeg) = z0 at *
                          try generalize Int32.toInt (pp + 1) = z1 at *
                          try generalize Int32.toInt r_135 = z2 at *
                          try generalize Int32.toInt (31 : Int32) = z3 at *
                          try generalize Int32.toInt (35 : Int32) = z4 at *
                          try generalize Int32.toInt (44 : Int32) = z5 at *
                          try generalize Int32.toInt (59 : Int32) = z6 at *
                          try generalize Int32.toInt be = z7 at *
                          try generalize Int32.toInt mn = z8 at *
                          try generalize Int32.toInt mo = z9 at *
                          try generalize Int32.toInt nn = z10 at *
                          try generalize Int32.toInt pp = z11 at *
                          try generalize Int32.toInt sh = z12 at *
                          try generalize Int32.toInt (0 : Int32) = z13 at *
                          try generalize Int32.toInt (1 : Int32) = z14 at *
                          try generalize Int32.toInt x = z15 at *
                          omega
                        exact ih (v) ((sh + 5)) (1) ((pp + 1)) (0) _ _ ls hR v_600 v_616 v_632 v_648 v_664 v_682 hP hD hS (lv_sub hl [6, 7, 8, 9, 2, 3, 0, 1] rfl)
                      · rw [if_neg c_586] at hR
                        refine lv_iconst (v := 1) hx hb dX9_number_141 (by decide) ?_
                        refine lv_goto (tgt := 146) hx hb dX9_number_142 (by decide) ?_
                        refine lv_istore (lv' := [(8, .int 1), (5, .int (sh + 5)), (6, .int 1), (10, .long (((r_135 &&& 31) : Int32).toInt64)), (9, .int r_135), (0, .ref h0), (1, .int x), (2, .int nn), (3, .long v), (7, .int pp)]) hx hb dX9_number_146 hl (by decide) rfl (fun ls hl => ?_)
                        refine lv_iinc (v := (pp + 1)) (lv' := [(7, .int (pp + 1)), (8, .int 1), (5, .int (sh + 5)), (6, .int 1), (10, .long (((r_135 &&& 31) : Int32).toInt64)), (9, .int r_135), (0, .ref h0), (1, .int x), (2, .int nn), (3, .long v)]) hx hb dX9_number_148 hl (k := 9) rfl rfl (by decide) rfl (fun ls hl => ?_)
                        refine lv_goto (tgt := 14) hx hb dX9_number_151 (by decide) ?_
                        have v_711 : x.toInt ≤ ((pp + 1)).toInt := by
                          have k_712 : (0 : Int32).toInt = 0 := by decide
                          have q_713 := i_ne c_1
                          have q_714 := i_ne c_84
                          have k_715 : (44 : Int32).toInt = 44 := by decide
                          have q_716 := i_ne c_101
                          have k_717 : (59 : Int32).toInt = 59 := by decide
                          have q_718 := i_ne c_124
                          have q_719 := i_le c_136
                          have k_720 : (35 : Int32).toInt = 35 := by decide
                          have q_721 := i_le c_137
                          have q_722 := i_eq c_138
                          have k_723 : (31 : Int32).toInt = 31 := by decide
                          have q_724 := i_nle c_586
                          have k_725 : (1 : Int32).toInt = 1 := by decide
                          have t_726 := ti_add (a := pp) (b := 1) (by omega) (by omega)
                          try generalize Int32.toInt (tp pp.toNatClampNeg) = z0 at *
                          try generalize Int32.toInt (pp + 1) = z1 at *
                          try generalize Int32.toInt r_135 = z2 at *
                          try generalize Int32.toInt (31 : Int32) = z3 at *
                          try generalize Int32.toInt (35 : Int32) = z4 at *
                          try generalize Int32.toInt (44 : Int32) = z5 at *
                          try generalize Int32.toInt (59 : Int32) = z6 at *
                          try generalize Int32.toInt be = z7 at *
                          try generalize Int32.toInt mn = z8 at *
                          try generalize Int32.toInt mo = z9 at *
                          try generalize Int32.toInt nn = z10 at *
                          try generalize Int32.toInt pp = z11 at *
                          try generalize Int32.toInt sh = z12 at *
                          try generalize Int32.toInt (0 : Int32) = z13 at *
                          try generalize Int32.toInt (1 : Int32) = z14 at *
                          try generalize Int32.toInt x = z15 at *
                          omega
                        have v_727 : ((pp + 1)).toInt ≤ nn.toInt := by
                          have k_728 : (0 : Int32).toInt = 0 := by decide
                          have q_729 := i_ne c_1
                          have q_730 := i_ne c_84
                          have k_731 : (44 : Int32).toInt = 44 := by decide
                          have q_732 := i_ne c_101
                          have k_733 : (59 : Int32).toInt = 59 := by decide
                          have q_734 := i_ne c_124
                          have q_735 := i_le c_136
                          have k_736 : (35 : Int32).toInt = 35 := by decide
                          have q_737 := i_le c_137
                          have q_738 := i_eq c_138
                          have k_739 : (31 : Int32).toInt = 31 := by decide
                          have q_740 := i_nle c_586
                          have k_741 : (1 : Int32).toInt = 1 := by decide
                          have t_742 := ti_add (a := pp) (b := 1) (by omega) (by omega)
                          try generalize Int32.toInt (tp pp.toNatClampNeg) = z0 at *
                          try generalize Int32.toInt (pp + 1) = z1 at *
                          try generalize Int32.toInt r_135 = z2 at *
                          try generalize Int32.toInt (31 : Int32) = z3 at *
                          try generalize Int32.toInt (35 : Int32) = z4 at *
                          try generalize Int32.toInt (44 : Int32) = z5 at *
                          try generalize Int32.toInt (59 : Int32) = z6 at *
                          try generalize Int32.toInt be = z7 at *
                          try generalize Int32.toInt mn = z8 at *
                          try generalize Int32.toInt mo = z9 at *
                          try generalize Int32.toInt nn = z10 at *
                          try generalize Int32.toInt pp = z11 at *
                          try generalize Int32.toInt sh = z12 at *
                          try generalize Int32.toInt (0 : Int32) = z13 at *
                          try generalize Int32.toInt (1 : Int32) = z14 at *
                          try generalize Int32.toInt x = z15 at *
                          omega
                        have v_743 : (1 : Int32).toInt = 0 → x.toInt < ((pp + 1)).toInt := by
                          have k_744 : (0 : Int32).toInt = 0 := by decide
                          have q_745 := i_ne c_1
                          have q_746 := i_ne c_84
                          have k_747 : (44 : Int32).toInt = 44 := by decide
                          have q_748 := i_ne c_101
                          have k_749 : (59 : Int32).toInt = 59 := by decide
                          have q_750 := i_ne c_124
                          have q_751 := i_le c_136
                          have k_752 : (35 : Int32).toInt = 35 := by decide
                          have q_753 := i_le c_137
                          have q_754 := i_eq c_138
                          have k_755 : (31 : Int32).toInt = 31 := by decide
                          have q_756 := i_nle c_586
                          have k_757 : (1 : Int32).toInt = 1 := by decide
                          have t_758 := ti_add (a := pp) (b := 1) (by omega) (by omega)
                          try generalize Int32.toInt (tp pp.toNatClampNeg) = z0 at *
                          try generalize Int32.toInt (pp + 1) = z1 at *
                          try generalize Int32.toInt r_135 = z2 at *
                          try generalize Int32.toInt (31 : Int32) = z3 at *
                          try generalize Int32.toInt (35 : Int32) = z4 at *
                          try generalize Int32.toInt (44 : Int32) = z5 at *
                          try generalize Int32.toInt (59 : Int32) = z6 at *
                          try generalize Int32.toInt be = z7 at *
                          try generalize Int32.toInt mn = z8 at *
                          try generalize Int32.toInt mo = z9 at *
                          try generalize Int32.toInt nn = z10 at *
                          try generalize Int32.toInt pp = z11 at *
                          try generalize Int32.toInt sh = z12 at *
                          try generalize Int32.toInt (0 : Int32) = z13 at *
                          try generalize Int32.toInt (1 : Int32) = z14 at *
                          try generalize Int32.toInt x = z15 at *
                          omega
                        have v_759 : 0 ≤ ((sh + 5)).toInt := by
                          have k_760 : (0 : Int32).toInt = 0 := by decide
                          have q_761 := i_ne c_1
                          have q_762 := i_ne c_84
                          have k_763 : (44 : Int32).toInt = 44 := by decide
                          have q_764 := i_ne c_101
                          have k_765 : (59 : Int32).toInt = 59 := by decide
                          have q_766 := i_ne c_124
                          have q_767 := i_le c_136
                          have k_768 : (35 : Int32).toInt = 35 := by decide
                          have q_769 := i_le c_137
                          have q_770 := i_eq c_138
                          have k_771 : (31 : Int32).toInt = 31 := by decide
                          have q_772 := i_nle c_586
                          have k_773 : (5 : Int32).toInt = 5 := by decide
                          have t_774 := ti_add (a := sh) (b := 5) (by omega) (by omega)
                          try generalize Int32.toInt (tp pp.toNatClampNeg) = z0 at *
                          try generalize Int32.toInt (sh + 5) = z1 at *
                          try generalize Int32.toInt r_135 = z2 at *
                          try generalize Int32.toInt (31 : Int32) = z3 at *
                          try generalize Int32.toInt (35 : Int32) = z4 at *
                          try generalize Int32.toInt (44 : Int32) = z5 at *
                          try generalize Int32.toInt (59 : Int32) = z6 at *
                          try generalize Int32.toInt be = z7 at *
                          try generalize Int32.toInt mn = z8 at *
                          try generalize Int32.toInt mo = z9 at *
                          try generalize Int32.toInt nn = z10 at *
                          try generalize Int32.toInt pp = z11 at *
                          try generalize Int32.toInt sh = z12 at *
                          try generalize Int32.toInt (0 : Int32) = z13 at *
                          try generalize Int32.toInt (5 : Int32) = z14 at *
                          try generalize Int32.toInt x = z15 at *
                          omega
                        have v_775 : ((sh + 5)).toInt ≤ 5 * (((pp + 1)).toInt - x.toInt) := by
                          have k_776 : (0 : Int32).toInt = 0 := by decide
                          have q_777 := i_ne c_1
                          have q_778 := i_ne c_84
                          have k_779 : (44 : Int32).toInt = 44 := by decide
                          have q_780 := i_ne c_101
                          have k_781 : (59 : Int32).toInt = 59 := by decide
                          have q_782 := i_ne c_124
                          have q_783 := i_le c_136
                          have k_784 : (35 : Int32).toInt = 35 := by decide
                          have q_785 := i_le c_137
                          have q_786 := i_eq c_138
                          have k_787 : (31 : Int32).toInt = 31 := by decide
                          have q_788 := i_nle c_586
                          have k_789 : (5 : Int32).toInt = 5 := by decide
                          have t_790 := ti_add (a := sh) (b := 5) (by omega) (by omega)
                          have k_791 : (1 : Int32).toInt = 1 := by decide
                          have t_792 := ti_add (a := pp) (b := 1) (by omega) (by omega)
                          try generalize Int32.toInt (tp pp.toNatClampNeg) = z0 at *
                          try generalize Int32.toInt (pp + 1) = z1 at *
                          try generalize Int32.toInt (sh + 5) = z2 at *
                          try generalize Int32.toInt r_135 = z3 at *
                          try generalize Int32.toInt (31 : Int32) = z4 at *
                          try generalize Int32.toInt (35 : Int32) = z5 at *
                          try generalize Int32.toInt (44 : Int32) = z6 at *
                          try generalize Int32.toInt (59 : Int32) = z7 at *
                          try generalize Int32.toInt be = z8 at *
                          try generalize Int32.toInt mn = z9 at *
                          try generalize Int32.toInt mo = z10 at *
                          try generalize Int32.toInt nn = z11 at *
                          try generalize Int32.toInt pp = z12 at *
                          try generalize Int32.toInt sh = z13 at *
                          try generalize Int32.toInt (0 : Int32) = z14 at *
                          try generalize Int32.toInt (1 : Int32) = z15 at *
                          try generalize Int32.toInt (5 : Int32) = z16 at *
                          try generalize Int32.toInt x = z17 at *
                          omega
                        have v_793 : nn.toInt - ((pp + 1)).toInt + 1 < ((n : Nat) : Int) := by
                          have k_794 : (0 : Int32).toInt = 0 := by decide
                          have q_795 := i_ne c_1
                          have q_796 := i_ne c_84
                          have k_797 : (44 : Int32).toInt = 44 := by decide
                          have q_798 := i_ne c_101
                          have k_799 : (59 : Int32).toInt = 59 := by decide
                          have q_800 := i_ne c_124
                          have q_801 := i_le c_136
                          have k_802 : (35 : Int32).toInt = 35 := by decide
                          have q_803 := i_le c_137
                          have q_804 := i_eq c_138
                          have k_805 : (31 : Int32).toInt = 31 := by decide
                          have q_806 := i_nle c_586
                          have k_807 : (1 : Int32).toInt = 1 := by decide
                          have t_808 := ti_add (a := pp) (b := 1) (by omega) (by omega)
                          try generalize Int32.toInt (tp pp.toNatClampNeg) = z0 at *
                          try generalize Int32.toInt (pp + 1) = z1 at *
                          try generalize Int32.toInt r_135 = z2 at *
                          try generalize Int32.toInt (31 : Int32) = z3 at *
                          try generalize Int32.toInt (35 : Int32) = z4 at *
                          try generalize Int32.toInt (44 : Int32) = z5 at *
                          try generalize Int32.toInt (59 : Int32) = z6 at *
                          try generalize Int32.toInt be = z7 at *
                          try generalize Int32.toInt mn = z8 at *
                          try generalize Int32.toInt mo = z9 at *
                          try generalize Int32.toInt nn = z10 at *
                          try generalize Int32.toInt pp = z11 at *
                          try generalize Int32.toInt sh = z12 at *
                          try generalize Int32.toInt (0 : Int32) = z13 at *
                          try generalize Int32.toInt (1 : Int32) = z14 at *
                          try generalize Int32.toInt x = z15 at *
                          omega
                        exact ih (v) ((sh + 5)) (1) ((pp + 1)) (1) _ _ ls hR v_711 v_727 v_743 v_759 v_775 v_793 hP hD hS (lv_sub hl [6, 7, 8, 9, 2, 3, 0, 1] rfl)
                · rw [if_neg c_137] at hR
                  refine lv_lload_n hx hb dX9_number_101 rfl (lv_at hl 5 rfl) ?_
                  refine lv_lload hx hb dX9_number_102 (lv_at hl 0 rfl) ?_
                  refine lv_iload hx hb dX9_number_104 (lv_at hl 6 rfl) ?_
                  refine lv_lshl hx hb dX9_number_106 rfl ?_
                  refine lv_lor hx hb dX9_number_107 ?_
                  refine lv_lstore_n (lv' := [(3, .long (v ||| (((((r_135 &&& 31) : Int32).toInt64) : Int64) <<< ((sh : Int32).toInt64 &&& 63)))), (10, .long (((r_135 &&& 31) : Int32).toInt64)), (9, .int r_135), (0, .ref h0), (1, .int x), (2, .int nn), (5, .int sh), (6, .int be), (7, .int pp), (8, .int mo)]) hx hb dX9_number_108 rfl hl (by decide) rfl (fun ls hl => ?_)
                  refine lv_goto (tgt := 131) hx hb dX9_number_109 (by decide) ?_
                  refine lv_iinc (v := (sh + 5)) (lv' := [(5, .int (sh + 5)), (3, .long (v ||| (((((r_135 &&& 31) : Int32).toInt64) : Int64) <<< ((sh : Int32).toInt64 &&& 63)))), (10, .long (((r_135 &&& 31) : Int32).toInt64)), (9, .int r_135), (0, .ref h0), (1, .int x), (2, .int nn), (6, .int be), (7, .int pp), (8, .int mo)]) hx hb dX9_number_131 hl (k := 6) rfl rfl (by decide) rfl (fun ls hl => ?_)
                  refine lv_iload hx hb dX9_number_134 (lv_at hl 3 rfl) ?_
                  refine lv_bipush (v := 31) hx hb dX9_number_136 (by decide) ?_
                  refine lv_icmp_le (tgt := 145) hx hb dX9_number_138 (by decide) (fun c_809 => ?_) (fun c_809 => ?_)
                  · rw [if_pos c_809] at hR
                    refine lv_iconst (v := 0) hx hb dX9_number_145 (by decide) ?_
                    refine lv_istore (lv' := [(8, .int 0), (5, .int (sh + 5)), (3, .long (v ||| (((((r_135 &&& 31) : Int32).toInt64) : Int64) <<< ((sh : Int32).toInt64 &&& 63)))), (10, .long (((r_135 &&& 31) : Int32).toInt64)), (9, .int r_135), (0, .ref h0), (1, .int x), (2, .int nn), (6, .int be), (7, .int pp)]) hx hb dX9_number_146 hl (by decide) rfl (fun ls hl => ?_)
                    refine lv_iinc (v := (pp + 1)) (lv' := [(7, .int (pp + 1)), (8, .int 0), (5, .int (sh + 5)), (3, .long (v ||| (((((r_135 &&& 31) : Int32).toInt64) : Int64) <<< ((sh : Int32).toInt64 &&& 63)))), (10, .long (((r_135 &&& 31) : Int32).toInt64)), (9, .int r_135), (0, .ref h0), (1, .int x), (2, .int nn), (6, .int be)]) hx hb dX9_number_148 hl (k := 9) rfl rfl (by decide) rfl (fun ls hl => ?_)
                    refine lv_goto (tgt := 14) hx hb dX9_number_151 (by decide) ?_
                    have v_822 : x.toInt ≤ ((pp + 1)).toInt := by
                      have k_823 : (0 : Int32).toInt = 0 := by decide
                      have q_824 := i_ne c_1
                      have q_825 := i_ne c_84
                      have k_826 : (44 : Int32).toInt = 44 := by decide
                      have q_827 := i_ne c_101
                      have k_828 : (59 : Int32).toInt = 59 := by decide
                      have q_829 := i_ne c_124
                      have q_830 := i_le c_136
                      have k_831 : (35 : Int32).toInt = 35 := by decide
                      have q_832 := i_nle c_137
                      have k_833 : (31 : Int32).toInt = 31 := by decide
                      have q_834 := i_le c_809
                      have k_835 : (1 : Int32).toInt = 1 := by decide
                      have t_836 := ti_add (a := pp) (b := 1) (by omega) (by omega)
                      try generalize Int32.toInt (tp pp.toNatClampNeg) = z0 at *
                      try generalize Int32.toInt (pp + 1) = z1 at *
                      try generalize Int32.toInt r_135 = z2 at *
                      try generalize Int32.toInt (31 : Int32) = z3 at *
                      try generalize Int32.toInt (35 : Int32) = z4 at *
                      try generalize Int32.toInt (44 : Int32) = z5 at *
                      try generalize Int32.toInt (59 : Int32) = z6 at *
                      try generalize Int32.toInt mn = z7 at *
                      try generalize Int32.toInt mo = z8 at *
                      try generalize Int32.toInt nn = z9 at *
                      try generalize Int32.toInt pp = z10 at *
                      try generalize Int32.toInt sh = z11 at *
                      try generalize Int32.toInt (0 : Int32) = z12 at *
                      try generalize Int32.toInt (1 : Int32) = z13 at *
                      try generalize Int32.toInt x = z14 at *
                      omega
                    have v_837 : ((pp + 1)).toInt ≤ nn.toInt := by
                      have k_838 : (0 : Int32).toInt = 0 := by decide
                      have q_839 := i_ne c_1
                      have q_840 := i_ne c_84
                      have k_841 : (44 : Int32).toInt = 44 := by decide
                      have q_842 := i_ne c_101
                      have k_843 : (59 : Int32).toInt = 59 := by decide
                      have q_844 := i_ne c_124
                      have q_845 := i_le c_136
                      have k_846 : (35 : Int32).toInt = 35 := by decide
                      have q_847 := i_nle c_137
                      have k_848 : (31 : Int32).toInt = 31 := by decide
                      have q_849 := i_le c_809
                      have k_850 : (1 : Int32).toInt = 1 := by decide
                      have t_851 := ti_add (a := pp) (b := 1) (by omega) (by omega)
                      try generalize Int32.toInt (tp pp.toNatClampNeg) = z0 at *
                      try generalize Int32.toInt (pp + 1) = z1 at *
                      try generalize Int32.toInt r_135 = z2 at *
                      try generalize Int32.toInt (31 : Int32) = z3 at *
                      try generalize Int32.toInt (35 : Int32) = z4 at *
                      try generalize Int32.toInt (44 : Int32) = z5 at *
                      try generalize Int32.toInt (59 : Int32) = z6 at *
                      try generalize Int32.toInt mn = z7 at *
                      try generalize Int32.toInt mo = z8 at *
                      try generalize Int32.toInt nn = z9 at *
                      try generalize Int32.toInt pp = z10 at *
                      try generalize Int32.toInt sh = z11 at *
                      try generalize Int32.toInt (0 : Int32) = z12 at *
                      try generalize Int32.toInt (1 : Int32) = z13 at *
                      try generalize Int32.toInt x = z14 at *
                      omega
                    have v_852 : (0 : Int32).toInt = 0 → x.toInt < ((pp + 1)).toInt := by
                      have k_853 : (0 : Int32).toInt = 0 := by decide
                      have q_854 := i_ne c_1
                      have q_855 := i_ne c_84
                      have k_856 : (44 : Int32).toInt = 44 := by decide
                      have q_857 := i_ne c_101
                      have k_858 : (59 : Int32).toInt = 59 := by decide
                      have q_859 := i_ne c_124
                      have q_860 := i_le c_136
                      have k_861 : (35 : Int32).toInt = 35 := by decide
                      have q_862 := i_nle c_137
                      have k_863 : (31 : Int32).toInt = 31 := by decide
                      have q_864 := i_le c_809
                      have k_865 : (1 : Int32).toInt = 1 := by decide
                      have t_866 := ti_add (a := pp) (b := 1) (by omega) (by omega)
                      try generalize Int32.toInt (tp pp.toNatClampNeg) = z0 at *
                      try generalize Int32.toInt (pp + 1) = z1 at *
                      try generalize Int32.toInt r_135 = z2 at *
                      try generalize Int32.toInt (31 : Int32) = z3 at *
                      try generalize Int32.toInt (35 : Int32) = z4 at *
                      try generalize Int32.toInt (44 : Int32) = z5 at *
                      try generalize Int32.toInt (59 : Int32) = z6 at *
                      try generalize Int32.toInt mn = z7 at *
                      try generalize Int32.toInt mo = z8 at *
                      try generalize Int32.toInt nn = z9 at *
                      try generalize Int32.toInt pp = z10 at *
                      try generalize Int32.toInt sh = z11 at *
                      try generalize Int32.toInt (0 : Int32) = z12 at *
                      try generalize Int32.toInt (1 : Int32) = z13 at *
                      try generalize Int32.toInt x = z14 at *
                      omega
                    have v_867 : 0 ≤ ((sh + 5)).toInt := by
                      have k_868 : (0 : Int32).toInt = 0 := by decide
                      have q_869 := i_ne c_1
                      have q_870 := i_ne c_84
                      have k_871 : (44 : Int32).toInt = 44 := by decide
                      have q_872 := i_ne c_101
                      have k_873 : (59 : Int32).toInt = 59 := by decide
                      have q_874 := i_ne c_124
                      have q_875 := i_le c_136
                      have k_876 : (35 : Int32).toInt = 35 := by decide
                      have q_877 := i_nle c_137
                      have k_878 : (31 : Int32).toInt = 31 := by decide
                      have q_879 := i_le c_809
                      have k_880 : (5 : Int32).toInt = 5 := by decide
                      have t_881 := ti_add (a := sh) (b := 5) (by omega) (by omega)
                      try generalize Int32.toInt (tp pp.toNatClampNeg) = z0 at *
                      try generalize Int32.toInt (sh + 5) = z1 at *
                      try generalize Int32.toInt r_135 = z2 at *
                      try generalize Int32.toInt (31 : Int32) = z3 at *
                      try generalize Int32.toInt (35 : Int32) = z4 at *
                      try generalize Int32.toInt (44 : Int32) = z5 at *
                      try generalize Int32.toInt (59 : Int32) = z6 at *
                      try generalize Int32.toInt mn = z7 at *
                      try generalize Int32.toInt mo = z8 at *
                      try generalize Int32.toInt nn = z9 at *
                      try generalize Int32.toInt pp = z10 at *
                      try generalize Int32.toInt sh = z11 at *
                      try generalize Int32.toInt (0 : Int32) = z12 at *
                      try generalize Int32.toInt (5 : Int32) = z13 at *
                      try generalize Int32.toInt x = z14 at *
                      omega
                    have v_882 : ((sh + 5)).toInt ≤ 5 * (((pp + 1)).toInt - x.toInt) := by
                      have k_883 : (0 : Int32).toInt = 0 := by decide
                      have q_884 := i_ne c_1
                      have q_885 := i_ne c_84
                      have k_886 : (44 : Int32).toInt = 44 := by decide
                      have q_887 := i_ne c_101
                      have k_888 : (59 : Int32).toInt = 59 := by decide
                      have q_889 := i_ne c_124
                      have q_890 := i_le c_136
                      have k_891 : (35 : Int32).toInt = 35 := by decide
                      have q_892 := i_nle c_137
                      have k_893 : (31 : Int32).toInt = 31 := by decide
                      have q_894 := i_le c_809
                      have k_895 : (5 : Int32).toInt = 5 := by decide
                      have t_896 := ti_add (a := sh) (b := 5) (by omega) (by omega)
                      have k_897 : (1 : Int32).toInt = 1 := by decide
                      have t_898 := ti_add (a := pp) (b := 1) (by omega) (by omega)
                      try generalize Int32.toInt (tp pp.toNatClampNeg) = z0 at *
                      try generalize Int32.toInt (pp + 1) = z1 at *
                      try generalize Int32.toInt (sh + 5) = z2 at *
                      try generalize Int32.toInt r_135 = z3 at *
                      try generalize Int32.toInt (31 : Int32) = z4 at *
                      try generalize Int32.toInt (35 : Int32) = z5 at *
                      try generalize Int32.toInt (44 : Int32) = z6 at *
                      try generalize Int32.toInt (59 : Int32) = z7 at *
                      try generalize Int32.toInt mn = z8 at *
                      try generalize Int32.toInt mo = z9 at *
                      try generalize Int32.toInt nn = z10 at *
                      try generalize Int32.toInt pp = z11 at *
                      try generalize Int32.toInt sh = z12 at *
                      try generalize Int32.toInt (0 : Int32) = z13 at *
                      try generalize Int32.toInt (1 : Int32) = z14 at *
                      try generalize Int32.toInt (5 : Int32) = z15 at *
                      try generalize Int32.toInt x = z16 at *
                      omega
                    have v_899 : nn.toInt - ((pp + 1)).toInt + 1 < ((n : Nat) : Int) := by
                      have k_900 : (0 : Int32).toInt = 0 := by decide
                      have q_901 := i_ne c_1
                      have q_902 := i_ne c_84
                      have k_903 : (44 : Int32).toInt = 44 := by decide
                      have q_904 := i_ne c_101
                      have k_905 : (59 : Int32).toInt = 59 := by decide
                      have q_906 := i_ne c_124
                      have q_907 := i_le c_136
                      have k_908 : (35 : Int32).toInt = 35 := by decide
                      have q_909 := i_nle c_137
                      have k_910 : (31 : Int32).toInt = 31 := by decide
                      have q_911 := i_le c_809
                      have k_912 : (1 : Int32).toInt = 1 := by decide
                      have t_913 := ti_add (a := pp) (b := 1) (by omega) (by omega)
                      try generalize Int32.toInt (tp pp.toNatClampNeg) = z0 at *
                      try generalize Int32.toInt (pp + 1) = z1 at *
                      try generalize Int32.toInt r_135 = z2 at *
                      try generalize Int32.toInt (31 : Int32) = z3 at *
                      try generalize Int32.toInt (35 : Int32) = z4 at *
                      try generalize Int32.toInt (44 : Int32) = z5 at *
                      try generalize Int32.toInt (59 : Int32) = z6 at *
                      try generalize Int32.toInt mn = z7 at *
                      try generalize Int32.toInt mo = z8 at *
                      try generalize Int32.toInt nn = z9 at *
                      try generalize Int32.toInt pp = z10 at *
                      try generalize Int32.toInt sh = z11 at *
                      try generalize Int32.toInt (0 : Int32) = z12 at *
                      try generalize Int32.toInt (1 : Int32) = z13 at *
                      try generalize Int32.toInt x = z14 at *
                      omega
                    exact ih ((v ||| (((((r_135 &&& 31) : Int32).toInt64) : Int64) <<< ((sh : Int32).toInt64 &&& 63)))) ((sh + 5)) (be) ((pp + 1)) (0) _ _ ls hR v_822 v_837 v_852 v_867 v_882 v_899 hP hD hS (lv_sub hl [6, 7, 8, 3, 2, 9, 0, 1] rfl)
                  · rw [if_neg c_809] at hR
                    refine lv_iconst (v := 1) hx hb dX9_number_141 (by decide) ?_
                    refine lv_goto (tgt := 146) hx hb dX9_number_142 (by decide) ?_
                    refine lv_istore (lv' := [(8, .int 1), (5, .int (sh + 5)), (3, .long (v ||| (((((r_135 &&& 31) : Int32).toInt64) : Int64) <<< ((sh : Int32).toInt64 &&& 63)))), (10, .long (((r_135 &&& 31) : Int32).toInt64)), (9, .int r_135), (0, .ref h0), (1, .int x), (2, .int nn), (6, .int be), (7, .int pp)]) hx hb dX9_number_146 hl (by decide) rfl (fun ls hl => ?_)
                    refine lv_iinc (v := (pp + 1)) (lv' := [(7, .int (pp + 1)), (8, .int 1), (5, .int (sh + 5)), (3, .long (v ||| (((((r_135 &&& 31) : Int32).toInt64) : Int64) <<< ((sh : Int32).toInt64 &&& 63)))), (10, .long (((r_135 &&& 31) : Int32).toInt64)), (9, .int r_135), (0, .ref h0), (1, .int x), (2, .int nn), (6, .int be)]) hx hb dX9_number_148 hl (k := 9) rfl rfl (by decide) rfl (fun ls hl => ?_)
                    refine lv_goto (tgt := 14) hx hb dX9_number_151 (by decide) ?_
                    have v_926 : x.toInt ≤ ((pp + 1)).toInt := by
                      have k_927 : (0 : Int32).toInt = 0 := by decide
                      have q_928 := i_ne c_1
                      have q_929 := i_ne c_84
                      have k_930 : (44 : Int32).toInt = 44 := by decide
                      have q_931 := i_ne c_101
                      have k_932 : (59 : Int32).toInt = 59 := by decide
                      have q_933 := i_ne c_124
                      have q_934 := i_le c_136
                      have k_935 : (35 : Int32).toInt = 35 := by decide
                      have q_936 := i_nle c_137
                      have k_937 : (31 : Int32).toInt = 31 := by decide
                      have q_938 := i_nle c_809
                      have k_939 : (1 : Int32).toInt = 1 := by decide
                      have t_940 := ti_add (a := pp) (b := 1) (by omega) (by omega)
                      try generalize Int32.toInt (tp pp.toNatClampNeg) = z0 at *
                      try generalize Int32.toInt (pp + 1) = z1 at *
                      try generalize Int32.toInt r_135 = z2 at *
                      try generalize Int32.toInt (31 : Int32) = z3 at *
                      try generalize Int32.toInt (35 : Int32) = z4 at *
                      try generalize Int32.toInt (44 : Int32) = z5 at *
                      try generalize Int32.toInt (59 : Int32) = z6 at *
                      try generalize Int32.toInt mn = z7 at *
                      try generalize Int32.toInt mo = z8 at *
                      try generalize Int32.toInt nn = z9 at *
                      try generalize Int32.toInt pp = z10 at *
                      try generalize Int32.toInt sh = z11 at *
                      try generalize Int32.toInt (0 : Int32) = z12 at *
                      try generalize Int32.toInt (1 : Int32) = z13 at *
                      try generalize Int32.toInt x = z14 at *
                      omega
                    have v_941 : ((pp + 1)).toInt ≤ nn.toInt := by
                      have k_942 : (0 : Int32).toInt = 0 := by decide
                      have q_943 := i_ne c_1
                      have q_944 := i_ne c_84
                      have k_945 : (44 : Int32).toInt = 44 := by decide
                      have q_946 := i_ne c_101
                      have k_947 : (59 : Int32).toInt = 59 := by decide
                      have q_948 := i_ne c_124
                      have q_949 := i_le c_136
                      have k_950 : (35 : Int32).toInt = 35 := by decide
                      have q_951 := i_nle c_137
                      have k_952 : (31 : Int32).toInt = 31 := by decide
                      have q_953 := i_nle c_809
                      have k_954 : (1 : Int32).toInt = 1 := by decide
                      have t_955 := ti_add (a := pp) (b := 1) (by omega) (by omega)
                      try generalize Int32.toInt (tp pp.toNatClampNeg) = z0 at *
                      try generalize Int32.toInt (pp + 1) = z1 at *
                      try generalize Int32.toInt r_135 = z2 at *
                      try generalize Int32.toInt (31 : Int32) = z3 at *
                      try generalize Int32.toInt (35 : Int32) = z4 at *
                      try generalize Int32.toInt (44 : Int32) = z5 at *
                      try generalize Int32.toInt (59 : Int32) = z6 at *
                      try generalize Int32.toInt mn = z7 at *
                      try generalize Int32.toInt mo = z8 at *
                      try generalize Int32.toInt nn = z9 at *
                      try generalize Int32.toInt pp = z10 at *
                      try generalize Int32.toInt sh = z11 at *
                      try generalize Int32.toInt (0 : Int32) = z12 at *
                      try generalize Int32.toInt (1 : Int32) = z13 at *
                      try generalize Int32.toInt x = z14 at *
                      omega
                    have v_956 : (1 : Int32).toInt = 0 → x.toInt < ((pp + 1)).toInt := by
                      have k_957 : (0 : Int32).toInt = 0 := by decide
                      have q_958 := i_ne c_1
                      have q_959 := i_ne c_84
                      have k_960 : (44 : Int32).toInt = 44 := by decide
                      have q_961 := i_ne c_101
                      have k_962 : (59 : Int32).toInt = 59 := by decide
                      have q_963 := i_ne c_124
                      have q_964 := i_le c_136
                      have k_965 : (35 : Int32).toInt = 35 := by decide
                      have q_966 := i_nle c_137
                      have k_967 : (31 : Int32).toInt = 31 := by decide
                      have q_968 := i_nle c_809
                      have k_969 : (1 : Int32).toInt = 1 := by decide
                      have t_970 := ti_add (a := pp) (b := 1) (by omega) (by omega)
                      try generalize Int32.toInt (tp pp.toNatClampNeg) = z0 at *
                      try generalize Int32.toInt (pp + 1) = z1 at *
                      try generalize Int32.toInt r_135 = z2 at *
                      try generalize Int32.toInt (31 : Int32) = z3 at *
                      try generalize Int32.toInt (35 : Int32) = z4 at *
                      try generalize Int32.toInt (44 : Int32) = z5 at *
                      try generalize Int32.toInt (59 : Int32) = z6 at *
                      try generalize Int32.toInt mn = z7 at *
                      try generalize Int32.toInt mo = z8 at *
                      try generalize Int32.toInt nn = z9 at *
                      try generalize Int32.toInt pp = z10 at *
                      try generalize Int32.toInt sh = z11 at *
                      try generalize Int32.toInt (0 : Int32) = z12 at *
                      try generalize Int32.toInt (1 : Int32) = z13 at *
                      try generalize Int32.toInt x = z14 at *
                      omega
                    have v_971 : 0 ≤ ((sh + 5)).toInt := by
                      have k_972 : (0 : Int32).toInt = 0 := by decide
                      have q_973 := i_ne c_1
                      have q_974 := i_ne c_84
                      have k_975 : (44 : Int32).toInt = 44 := by decide
                      have q_976 := i_ne c_101
                      have k_977 : (59 : Int32).toInt = 59 := by decide
                      have q_978 := i_ne c_124
                      have q_979 := i_le c_136
                      have k_980 : (35 : Int32).toInt = 35 := by decide
                      have q_981 := i_nle c_137
                      have k_982 : (31 : Int32).toInt = 31 := by decide
                      have q_983 := i_nle c_809
                      have k_984 : (5 : Int32).toInt = 5 := by decide
                      have t_985 := ti_add (a := sh) (b := 5) (by omega) (by omega)
                      try generalize Int32.toInt (tp pp.toNatClampNeg) = z0 at *
                      try generalize Int32.toInt (sh + 5) = z1 at *
                      try generalize Int32.toInt r_135 = z2 at *
                      try generalize Int32.toInt (31 : Int32) = z3 at *
                      try generalize Int32.toInt (35 : Int32) = z4 at *
                      try generalize Int32.toInt (44 : Int32) = z5 at *
                      try generalize Int32.toInt (59 : Int32) = z6 at *
                      try generalize Int32.toInt mn = z7 at *
                      try generalize Int32.toInt mo = z8 at *
                      try generalize Int32.toInt nn = z9 at *
                      try generalize Int32.toInt pp = z10 at *
                      try generalize Int32.toInt sh = z11 at *
                      try generalize Int32.toInt (0 : Int32) = z12 at *
                      try generalize Int32.toInt (5 : Int32) = z13 at *
                      try generalize Int32.toInt x = z14 at *
                      omega
                    have v_986 : ((sh + 5)).toInt ≤ 5 * (((pp + 1)).toInt - x.toInt) := by
                      have k_987 : (0 : Int32).toInt = 0 := by decide
                      have q_988 := i_ne c_1
                      have q_989 := i_ne c_84
                      have k_990 : (44 : Int32).toInt = 44 := by decide
                      have q_991 := i_ne c_101
                      have k_992 : (59 : Int32).toInt = 59 := by decide
                      have q_993 := i_ne c_124
                      have q_994 := i_le c_136
                      have k_995 : (35 : Int32).toInt = 35 := by decide
                      have q_996 := i_nle c_137
                      have k_997 : (31 : Int32).toInt = 31 := by decide
                      have q_998 := i_nle c_809
                      have k_999 : (5 : Int32).toInt = 5 := by decide
                      have t_1000 := ti_add (a := sh) (b := 5) (by omega) (by omega)
                      have k_1001 : (1 : Int32).toInt = 1 := by decide
                      have t_1002 := ti_add (a := pp) (b := 1) (by omega) (by omega)
                      try generalize Int32.toInt (tp pp.toNatClampNeg) = z0 at *
                      try generalize Int32.toInt (pp + 1) = z1 at *
                      try generalize Int32.toInt (sh + 5) = z2 at *
                      try generalize Int32.toInt r_135 = z3 at *
                      try generalize Int32.toInt (31 : Int32) = z4 at *
                      try generalize Int32.toInt (35 : Int32) = z5 at *
                      try generalize Int32.toInt (44 : Int32) = z6 at *
                      try generalize Int32.toInt (59 : Int32) = z7 at *
                      try generalize Int32.toInt mn = z8 at *
                      try generalize Int32.toInt mo = z9 at *
                      try generalize Int32.toInt nn = z10 at *
                      try generalize Int32.toInt pp = z11 at *
                      try generalize Int32.toInt sh = z12 at *
                      try generalize Int32.toInt (0 : Int32) = z13 at *
                      try generalize Int32.toInt (1 : Int32) = z14 at *
                      try generalize Int32.toInt (5 : Int32) = z15 at *
                      try generalize Int32.toInt x = z16 at *
                      omega
                    have v_1003 : nn.toInt - ((pp + 1)).toInt + 1 < ((n : Nat) : Int) := by
                      have k_1004 : (0 : Int32).toInt = 0 := by decide
                      have q_1005 := i_ne c_1
                      have q_1006 := i_ne c_84
                      have k_1007 : (44 : Int32).toInt = 44 := by decide
                      have q_1008 := i_ne c_101
                      have k_1009 : (59 : Int32).toInt = 59 := by decide
                      have q_1010 := i_ne c_124
                      have q_1011 := i_le c_136
                      have k_1012 : (35 : Int32).toInt = 35 := by decide
                      have q_1013 := i_nle c_137
                      have k_1014 : (31 : Int32).toInt = 31 := by decide
                      have q_1015 := i_nle c_809
                      have k_1016 : (1 : Int32).toInt = 1 := by decide
                      have t_1017 := ti_add (a := pp) (b := 1) (by omega) (by omega)
                      try generalize Int32.toInt (tp pp.toNatClampNeg) = z0 at *
                      try generalize Int32.toInt (pp + 1) = z1 at *
                      try generalize Int32.toInt r_135 = z2 at *
                      try generalize Int32.toInt (31 : Int32) = z3 at *
                      try generalize Int32.toInt (35 : Int32) = z4 at *
                      try generalize Int32.toInt (44 : Int32) = z5 at *
                      try generalize Int32.toInt (59 : Int32) = z6 at *
                      try generalize Int32.toInt mn = z7 at *
                      try generalize Int32.toInt mo = z8 at *
                      try generalize Int32.toInt nn = z9 at *
                      try generalize Int32.toInt pp = z10 at *
                      try generalize Int32.toInt sh = z11 at *
                      try generalize Int32.toInt (0 : Int32) = z12 at *
                      try generalize Int32.toInt (1 : Int32) = z13 at *
                      try generalize Int32.toInt x = z14 at *
                      omega
                    exact ih ((v ||| (((((r_135 &&& 31) : Int32).toInt64) : Int64) <<< ((sh : Int32).toInt64 &&& 63)))) ((sh + 5)) (be) ((pp + 1)) (1) _ _ ls hR v_926 v_941 v_956 v_971 v_986 v_1003 hP hD hS (lv_sub hl [6, 7, 8, 3, 2, 9, 0, 1] rfl)
              · rw [if_neg c_136] at hR
                refine lv_aload_n hx hb dX9_number_76 rfl (lv_at hl 1 rfl) ?_
                refine lv_iconst (v := 1) hx hb dX9_number_77 (by decide) ?_
                refine lv_iload hx hb dX9_number_78 (lv_at hl 7 rfl) ?_
                have hPc := hP.sub (ws' := [(h0, .inr (9, [.int th, .ref a0, .ref a1, .ref a2, .int dc, .ref a3, .int tl, .ref a4, .int xl, .int fo, .int fa, .ref a5, .int mn, .ref a6, .int ft, .ref a7, .int wl]))]) [0] rfl
                have hDc := hD.sub (ws' := [(h0, .inr (9, [.int th, .ref a0, .ref a1, .ref a2, .int dc, .ref a3, .int tl, .ref a4, .int xl, .int fo, .int fa, .ref a5, .int mn, .ref a6, .int ft, .ref a7, .int wl]))]) [0] (by decide) rfl
                have hFc := va_free (wc := [(h0, .inr (9, [.int th, .ref a0, .ref a1, .ref a2, .int dc, .ref a3, .int tl, .ref a4, .int xl, .int fo, .int fa, .ref a5, .int mn, .ref a6, .int ft, .ref a7, .int wl]))]) hD hS hA [0] rfl
                refine va_calli (va_runV (As := [.int 1, .int pp]) (rest := []) ⟨hx, hb, hml, hown, hts⟩ (c_X9_fails l dC dI cB cC cI cJ H.size h0 a0 a1 a2 a3 a4 a5 a6 a7 th dc tl xl fo fa mn ft wl 1 pp ) (cwV 2 hts gX9_number_X9_fails rfl rfl rfl (by decide +kernel) ⟨(Nat.le_of_ble_eq_true rfl), (Nat.le_of_ble_eq_true rfl)⟩) ⟨cP_blind, va_recv hG.1 hPc (ci := 9) (q0 := 0) rfl rfl, cP_pre hPc hG hDc⟩ rfl rfl hl.1 rfl (lv_room (Nat.le_of_ble_eq_true rfl)) dX9_number_80 ⟨Nat.le_of_ble_eq_true rfl, Nat.le_of_ble_eq_true rfl⟩) hS (fun q _ h => hFc q h) hFc (fun r_1018v u t H1 locs ht hvm hw hB hz1 hk1 hS => ?_)
                obtain ⟨hP1, hD1⟩ := hB
                rw [ht] at hP1
                generalize hr_1018 : fX9_fails th dc tl xl fo fa mn ft wl 1 pp = r_1018 at hP1 hD1 hw
                obtain ⟨hw, er_1018_0⟩ := hw
                rw [bnd_eq hr_1018] at hR
                subst hw
                obtain ⟨hP, hD⟩ := va_join (wr := [(a3, .inl (cB, 3000, .inl tp)), (a5, .inl (cJ, 6, .inr (.inl nu)))]) (w1 := [(h0, .inr (9, [.int th, .ref a0, .ref a1, .ref a2, .int dc, .ref a3, .int tl, .ref a4, .int xl, .int r_1018.2.1, .int r_1018.2.2, .ref a5, .int mn, .ref a6, .int ft, .ref a7, .int wl]))]) hP hD [0] [1, 2] rfl rfl (by decide) (by decide) hk1 hFc hP1 hD1
                generalize H1 = H at hP hS ⊢
                have hP := hP.sub (ws' := [(h0, .inr (9, [.int th, .ref a0, .ref a1, .ref a2, .int dc, .ref a3, .int tl, .ref a4, .int xl, .int r_1018.2.1, .int r_1018.2.2, .ref a5, .int mn, .ref a6, .int ft, .ref a7, .int wl])), (a3, .inl (cB, 3000, .inl tp)), (a5, .inl (cJ, 6, .inr (.inl nu)))]) [2, 0, 1] rfl
                have hD := hD.sub (ws' := [(h0, .inr (9, [.int th, .ref a0, .ref a1, .ref a2, .int dc, .ref a3, .int tl, .ref a4, .int xl, .int r_1018.2.1, .int r_1018.2.2, .ref a5, .int mn, .ref a6, .int ft, .ref a7, .int wl])), (a3, .inl (cB, 3000, .inl tp)), (a5, .inl (cJ, 6, .inr (.inl nu)))]) [2, 0, 1] (by decide) rfl
                refine lv_pop hx hb dX9_number_83 rfl ?_
                refine lv_iconst (v := (-1)) hx hb dX9_number_84 (by decide) ?_
                have e_1019 : ((-1) : Int32).toInt = -1 ∨ (x.toInt < ((-1) : Int32).toInt ∧ ((-1) : Int32).toInt ≤ nn.toInt) := by
                  have k_1020 : (0 : Int32).toInt = 0 := by decide
                  have q_1021 := i_ne c_1
                  have q_1022 := i_ne c_84
                  have k_1023 : (44 : Int32).toInt = 44 := by decide
                  have q_1024 := i_ne c_101
                  have k_1025 : (59 : Int32).toInt = 59 := by decide
                  have q_1026 := i_ne c_124
                  have q_1027 := i_nle c_136
                  have k_1028 : ((-1) : Int32).toInt = -1 := by decide
                  try generalize Int32.toInt (tp pp.toNatClampNeg) = z0 at *
                  try generalize Int32.toInt r_135 = z1 at *
                  try generalize Int32.toInt ((-1) : Int32) = z2 at *
                  try generalize Int32.toInt (44 : Int32) = z3 at *
                  try generalize Int32.toInt (59 : Int32) = z4 at *
                  try generalize Int32.toInt mn = z5 at *
                  try generalize Int32.toInt mo = z6 at *
                  try generalize Int32.toInt nn = z7 at *
                  try generalize Int32.toInt pp = z8 at *
                  try generalize Int32.toInt sh = z9 at *
                  try generalize Int32.toInt (0 : Int32) = z10 at *
                  try generalize Int32.toInt x = z11 at *
                  omega
                have e_1029 : mn.toInt ≤ (mn : Int32).toInt ∧ (mn : Int32).toInt ≤ mn.toInt + 1 := by
                  have k_1030 : (0 : Int32).toInt = 0 := by decide
                  have q_1031 := i_ne c_1
                  have q_1032 := i_ne c_84
                  have k_1033 : (44 : Int32).toInt = 44 := by decide
                  have q_1034 := i_ne c_101
                  have k_1035 : (59 : Int32).toInt = 59 := by decide
                  have q_1036 := i_ne c_124
                  have q_1037 := i_nle c_136
                  try generalize Int32.toInt (tp pp.toNatClampNeg) = z0 at *
                  try generalize Int32.toInt r_135 = z1 at *
                  try generalize Int32.toInt (44 : Int32) = z2 at *
                  try generalize Int32.toInt (59 : Int32) = z3 at *
                  try generalize Int32.toInt mn = z4 at *
                  try generalize Int32.toInt mo = z5 at *
                  try generalize Int32.toInt nn = z6 at *
                  try generalize Int32.toInt pp = z7 at *
                  try generalize Int32.toInt sh = z8 at *
                  try generalize Int32.toInt (0 : Int32) = z9 at *
                  try generalize Int32.toInt x = z10 at *
                  omega
                subst hR
                exact W.iret (v := (-1)) hx hb hr (fun t ht hW => ⟨⟨(-1), (), rfl, ⟨rfl, e_1019, e_1029⟩, by rw [ht]; exact hP, hD⟩, hS.F ht⟩) hS.2.2 dX9_number_85
            · rw [if_pos c_124] at hR
              refine lv_aload_n hx hb dX9_number_49 rfl (lv_at hl 0 rfl) ?_
              refine lv_iconst (v := 2) hx hb dX9_number_50 (by decide) ?_
              refine lv_iload hx hb dX9_number_51 (lv_at hl 6 rfl) ?_
              have hPc := hP.sub (ws' := [(h0, .inr (9, [.int th, .ref a0, .ref a1, .ref a2, .int dc, .ref a3, .int tl, .ref a4, .int xl, .int fo, .int fa, .ref a5, .int mn, .ref a6, .int ft, .ref a7, .int wl]))]) [0] rfl
              have hDc := hD.sub (ws' := [(h0, .inr (9, [.int th, .ref a0, .ref a1, .ref a2, .int dc, .ref a3, .int tl, .ref a4, .int xl, .int fo, .int fa, .ref a5, .int mn, .ref a6, .int ft, .ref a7, .int wl]))]) [0] (by decide) rfl
              have hFc := va_free (wc := [(h0, .inr (9, [.int th, .ref a0, .ref a1, .ref a2, .int dc, .ref a3, .int tl, .ref a4, .int xl, .int fo, .int fa, .ref a5, .int mn, .ref a6, .int ft, .ref a7, .int wl]))]) hD hS hA [0] rfl
              refine va_calli (va_runV (As := [.int 2, .int pp]) (rest := []) ⟨hx, hb, hml, hown, hts⟩ (c_X9_fails l dC dI cB cC cI cJ H.size h0 a0 a1 a2 a3 a4 a5 a6 a7 th dc tl xl fo fa mn ft wl 2 pp ) (cwV 2 hts gX9_number_X9_fails rfl rfl rfl (by decide +kernel) ⟨(Nat.le_of_ble_eq_true rfl), (Nat.le_of_ble_eq_true rfl)⟩) ⟨cP_blind, va_recv hG.1 hPc (ci := 9) (q0 := 0) rfl rfl, cP_pre hPc hG hDc⟩ rfl rfl hl.1 rfl (lv_room (Nat.le_of_ble_eq_true rfl)) dX9_number_53 ⟨Nat.le_of_ble_eq_true rfl, Nat.le_of_ble_eq_true rfl⟩) hS (fun q _ h => hFc q h) hFc (fun r_1038v u t H1 locs ht hvm hw hB hz1 hk1 hS => ?_)
              obtain ⟨hP1, hD1⟩ := hB
              rw [ht] at hP1
              generalize hr_1038 : fX9_fails th dc tl xl fo fa mn ft wl 2 pp = r_1038 at hP1 hD1 hw
              obtain ⟨hw, er_1038_0⟩ := hw
              rw [bnd_eq hr_1038] at hR
              subst hw
              obtain ⟨hP, hD⟩ := va_join (wr := [(a3, .inl (cB, 3000, .inl tp)), (a5, .inl (cJ, 6, .inr (.inl nu)))]) (w1 := [(h0, .inr (9, [.int th, .ref a0, .ref a1, .ref a2, .int dc, .ref a3, .int tl, .ref a4, .int xl, .int r_1038.2.1, .int r_1038.2.2, .ref a5, .int mn, .ref a6, .int ft, .ref a7, .int wl]))]) hP hD [0] [1, 2] rfl rfl (by decide) (by decide) hk1 hFc hP1 hD1
              generalize H1 = H at hP hS ⊢
              have hP := hP.sub (ws' := [(h0, .inr (9, [.int th, .ref a0, .ref a1, .ref a2, .int dc, .ref a3, .int tl, .ref a4, .int xl, .int r_1038.2.1, .int r_1038.2.2, .ref a5, .int mn, .ref a6, .int ft, .ref a7, .int wl])), (a3, .inl (cB, 3000, .inl tp)), (a5, .inl (cJ, 6, .inr (.inl nu)))]) [2, 0, 1] rfl
              have hD := hD.sub (ws' := [(h0, .inr (9, [.int th, .ref a0, .ref a1, .ref a2, .int dc, .ref a3, .int tl, .ref a4, .int xl, .int r_1038.2.1, .int r_1038.2.2, .ref a5, .int mn, .ref a6, .int ft, .ref a7, .int wl])), (a3, .inl (cB, 3000, .inl tp)), (a5, .inl (cJ, 6, .inr (.inl nu)))]) [2, 0, 1] (by decide) rfl
              refine lv_pop hx hb dX9_number_56 rfl ?_
              refine lv_iconst (v := (-1)) hx hb dX9_number_57 (by decide) ?_
              have e_1039 : ((-1) : Int32).toInt = -1 ∨ (x.toInt < ((-1) : Int32).toInt ∧ ((-1) : Int32).toInt ≤ nn.toInt) := by
                have k_1040 : (0 : Int32).toInt = 0 := by decide
                have q_1041 := i_ne c_1
                have q_1042 := i_ne c_84
                have k_1043 : (44 : Int32).toInt = 44 := by decide
                have q_1044 := i_ne c_101
                have k_1045 : (59 : Int32).toInt = 59 := by decide
                have q_1046 := i_eq c_124
                have k_1047 : ((-1) : Int32).toInt = -1 := by decide
                try generalize Int32.toInt (tp pp.toNatClampNeg) = z0 at *
                try generalize Int32.toInt ((-1) : Int32) = z1 at *
                try generalize Int32.toInt (44 : Int32) = z2 at *
                try generalize Int32.toInt (59 : Int32) = z3 at *
                try generalize Int32.toInt mn = z4 at *
                try generalize Int32.toInt mo = z5 at *
                try generalize Int32.toInt nn = z6 at *
                try generalize Int32.toInt pp = z7 at *
                try generalize Int32.toInt sh = z8 at *
                try generalize Int32.toInt (0 : Int32) = z9 at *
                try generalize Int32.toInt x = z10 at *
                omega
              have e_1048 : mn.toInt ≤ (mn : Int32).toInt ∧ (mn : Int32).toInt ≤ mn.toInt + 1 := by
                have k_1049 : (0 : Int32).toInt = 0 := by decide
                have q_1050 := i_ne c_1
                have q_1051 := i_ne c_84
                have k_1052 : (44 : Int32).toInt = 44 := by decide
                have q_1053 := i_ne c_101
                have k_1054 : (59 : Int32).toInt = 59 := by decide
                have q_1055 := i_eq c_124
                try generalize Int32.toInt (tp pp.toNatClampNeg) = z0 at *
                try generalize Int32.toInt (44 : Int32) = z1 at *
                try generalize Int32.toInt (59 : Int32) = z2 at *
                try generalize Int32.toInt mn = z3 at *
                try generalize Int32.toInt mo = z4 at *
                try generalize Int32.toInt nn = z5 at *
                try generalize Int32.toInt pp = z6 at *
                try generalize Int32.toInt sh = z7 at *
                try generalize Int32.toInt (0 : Int32) = z8 at *
                try generalize Int32.toInt x = z9 at *
                omega
              subst hR
              exact W.iret (v := (-1)) hx hb hr (fun t ht hW => ⟨⟨(-1), (), rfl, ⟨rfl, e_1039, e_1048⟩, by rw [ht]; exact hP, hD⟩, hS.F ht⟩) hS.2.2 dX9_number_58
  refine lv_lconst (v := 0) hx hb dX9_number_0 (by decide) ?_
  refine lv_lstore_n (lv' := [(3, .long 0), (0, .ref h0), (1, .int x), (2, .int nn)]) hx hb dX9_number_1 rfl hl (by decide) rfl (fun ls hl => ?_)
  refine lv_iconst (v := 0) hx hb dX9_number_2 (by decide) ?_
  refine lv_istore (lv' := [(5, .int 0), (3, .long 0), (0, .ref h0), (1, .int x), (2, .int nn)]) hx hb dX9_number_3 hl (by decide) rfl (fun ls hl => ?_)
  refine lv_iconst (v := 0) hx hb dX9_number_5 (by decide) ?_
  refine lv_istore (lv' := [(6, .int 0), (5, .int 0), (3, .long 0), (0, .ref h0), (1, .int x), (2, .int nn)]) hx hb dX9_number_6 hl (by decide) rfl (fun ls hl => ?_)
  refine lv_iload_n hx hb dX9_number_8 rfl (lv_at hl 4 rfl) ?_
  refine lv_istore (lv' := [(7, .int x), (6, .int 0), (5, .int 0), (3, .long 0), (0, .ref h0), (1, .int x), (2, .int nn)]) hx hb dX9_number_9 hl (by decide) rfl (fun ls hl => ?_)
  refine lv_iconst (v := 1) hx hb dX9_number_11 (by decide) ?_
  refine lv_istore (lv' := [(8, .int 1), (7, .int x), (6, .int 0), (5, .int 0), (3, .long 0), (0, .ref h0), (1, .int x), (2, .int nn)]) hx hb dX9_number_12 hl (by decide) rfl (fun ls hl => ?_)
  have v_1056 : x.toInt ≤ x.toInt := by
    try generalize Int32.toInt mn = z0 at *
    try generalize Int32.toInt nn = z1 at *
    try generalize Int32.toInt x = z2 at *
    omega
  have v_1057 : x.toInt ≤ nn.toInt := by
    try generalize Int32.toInt mn = z0 at *
    try generalize Int32.toInt nn = z1 at *
    try generalize Int32.toInt x = z2 at *
    omega
  have v_1058 : (1 : Int32).toInt = 0 → x.toInt < x.toInt := by
    have k_1059 : (1 : Int32).toInt = 1 := by decide
    try generalize Int32.toInt mn = z0 at *
    try generalize Int32.toInt nn = z1 at *
    try generalize Int32.toInt (1 : Int32) = z2 at *
    try generalize Int32.toInt x = z3 at *
    omega
  have v_1060 : 0 ≤ (0 : Int32).toInt := by
    have k_1061 : (0 : Int32).toInt = 0 := by decide
    try generalize Int32.toInt mn = z0 at *
    try generalize Int32.toInt nn = z1 at *
    try generalize Int32.toInt (0 : Int32) = z2 at *
    try generalize Int32.toInt x = z3 at *
    omega
  have v_1062 : (0 : Int32).toInt ≤ 5 * (x.toInt - x.toInt) := by
    have k_1063 : (0 : Int32).toInt = 0 := by decide
    try generalize Int32.toInt mn = z0 at *
    try generalize Int32.toInt nn = z1 at *
    try generalize Int32.toInt (0 : Int32) = z2 at *
    try generalize Int32.toInt x = z3 at *
    omega
  have v_1064 : nn.toInt - x.toInt + 1 < ((3002 : Nat) : Int) := by
    try generalize Int32.toInt mn = z0 at *
    try generalize Int32.toInt nn = z1 at *
    try generalize Int32.toInt x = z2 at *
    omega
  exact loop_14 3002 (0) (0) (0) (x) (1) _ _ ls hR v_1056 v_1057 v_1058 v_1060 v_1062 v_1064 hP hD hS (lv_sub hl [5, 6, 7, 4, 3, 2, 1, 0] rfl)

def fX9_segment_217 (th dc tl xl fo fa mn ft wl : Int32) (dr : Nat → Int32) (nu : Nat → Int64) (la : Nat → Int64) (x : Int32) : Nat → Int32 → (Nat → Int64) → Int32 × Int32 × Int32 × Int32 × (Nat → Int32) × (Nat → Int64)
  | 0, _, _ => (0, 0, 0, 0, (fun _ => 0), (fun _ => 0))
  | n + 1, gd, lz =>
    if gd = 0 then
      bnd (fX9_fails th dc tl xl fo fa mn ft wl 4 x) fun r_306 =>
      (r_306.1, dc, r_306.2.1, r_306.2.2, dr, lz)
    else
      if dc = 300 then
        bnd (fX9_fails th dc tl xl fo fa mn ft wl 5 x) fun r_300 =>
        (r_300.1, dc, r_300.2.1, r_300.2.2, dr, lz)
      else
        if mn = 1 then
          if mn = 5 then
            (1, (dc + 1), fo, fa, (upd (upd (upd (upd (upd (upd dr (6 * dc).toNatClampNeg (((lz (0 : Int32).toNatClampNeg) : Int64).toInt32)) ((6 * dc) + 1).toNatClampNeg (((lz (1 : Int32).toNatClampNeg) : Int64).toInt32)) ((6 * dc) + 2).toNatClampNeg (-1)) ((6 * dc) + 3).toNatClampNeg 0) ((6 * dc) + 4).toNatClampNeg 0) ((6 * dc) + 5).toNatClampNeg (((lz (5 : Int32).toNatClampNeg) : Int64).toInt32)), lz)
          else
            (1, (dc + 1), fo, fa, (upd (upd (upd (upd (upd (upd dr (6 * dc).toNatClampNeg (((lz (0 : Int32).toNatClampNeg) : Int64).toInt32)) ((6 * dc) + 1).toNatClampNeg (((lz (1 : Int32).toNatClampNeg) : Int64).toInt32)) ((6 * dc) + 2).toNatClampNeg (-1)) ((6 * dc) + 3).toNatClampNeg 0) ((6 * dc) + 4).toNatClampNeg 0) ((6 * dc) + 5).toNatClampNeg (-1)), lz)
        else
          if mn = 5 then
            (1, (dc + 1), fo, fa, (upd (upd (upd (upd (upd (upd dr (6 * dc).toNatClampNeg (((lz (0 : Int32).toNatClampNeg) : Int64).toInt32)) ((6 * dc) + 1).toNatClampNeg (((lz (1 : Int32).toNatClampNeg) : Int64).toInt32)) ((6 * dc) + 2).toNatClampNeg (((lz (2 : Int32).toNatClampNeg) : Int64).toInt32)) ((6 * dc) + 3).toNatClampNeg (((lz (3 : Int32).toNatClampNeg) : Int64).toInt32)) ((6 * dc) + 4).toNatClampNeg (((lz (4 : Int32).toNatClampNeg) : Int64).toInt32)) ((6 * dc) + 5).toNatClampNeg (((lz (5 : Int32).toNatClampNeg) : Int64).toInt32)), lz)
          else
            (1, (dc + 1), fo, fa, (upd (upd (upd (upd (upd (upd dr (6 * dc).toNatClampNeg (((lz (0 : Int32).toNatClampNeg) : Int64).toInt32)) ((6 * dc) + 1).toNatClampNeg (((lz (1 : Int32).toNatClampNeg) : Int64).toInt32)) ((6 * dc) + 2).toNatClampNeg (((lz (2 : Int32).toNatClampNeg) : Int64).toInt32)) ((6 * dc) + 3).toNatClampNeg (((lz (3 : Int32).toNatClampNeg) : Int64).toInt32)) ((6 * dc) + 4).toNatClampNeg (((lz (4 : Int32).toNatClampNeg) : Int64).toInt32)) ((6 * dc) + 5).toNatClampNeg (-1)), lz)
def fX9_segment_98 (th dc tl xl fo fa mn ft wl : Int32) (dr : Nat → Int32) (nu : Nat → Int64) (la : Nat → Int64) (x : Int32) : Nat → Int32 → Int32 → (Nat → Int64) → Int32 × Int32 × Int32 × Int32 × (Nat → Int32) × (Nat → Int64)
  | 0, _, _, _ => (0, 0, 0, 0, (fun _ => 0), (fun _ => 0))
  | n + 1, k, gd, lz =>
    if mn ≤ k then
      if gd = 0 then
        if mn = 5 then
          fX9_segment_217 th dc tl xl fo fa mn ft wl dr nu la x 1 0 lz
        else
          fX9_segment_217 th dc tl xl fo fa mn ft wl dr nu la x 1 0 lz
      else
        bnd (fX9_within (lz (2 : Int32).toNatClampNeg) 99) fun r_345 =>
        if r_345 = 0 then
          if mn = 5 then
            fX9_segment_217 th dc tl xl fo fa mn ft wl dr nu la x 1 0 lz
          else
            fX9_segment_217 th dc tl xl fo fa mn ft wl dr nu la x 1 0 lz
        else
          bnd (fX9_within (lz (3 : Int32).toNatClampNeg) 999999) fun r_385 =>
          if r_385 = 0 then
            if mn = 5 then
              fX9_segment_217 th dc tl xl fo fa mn ft wl dr nu la x 1 0 lz
            else
              fX9_segment_217 th dc tl xl fo fa mn ft wl dr nu la x 1 0 lz
          else
            bnd (fX9_within (lz (4 : Int32).toNatClampNeg) 999999) fun r_430 =>
            if r_430 = 0 then
              if mn = 5 then
                fX9_segment_217 th dc tl xl fo fa mn ft wl dr nu la x 1 0 lz
              else
                fX9_segment_217 th dc tl xl fo fa mn ft wl dr nu la x 1 0 lz
            else
              if mn = 5 then
                bnd (fX9_within (lz (5 : Int32).toNatClampNeg) 99) fun r_502 =>
                if r_502 = 0 then
                  fX9_segment_217 th dc tl xl fo fa mn ft wl dr nu la x 1 0 lz
                else
                  fX9_segment_217 th dc tl xl fo fa mn ft wl dr nu la x 1 1 lz
              else
                fX9_segment_217 th dc tl xl fo fa mn ft wl dr nu la x 1 1 lz
    else
      fX9_segment_98 th dc tl xl fo fa mn ft wl dr nu la x n (k + 1) gd (vp_updL lz (k + 1).toNatClampNeg ((lz (k + 1).toNatClampNeg) + (nu k.toNatClampNeg)))
def fX9_segment (th dc tl xl fo fa mn ft wl : Int32) (dr : Nat → Int32) (nu : Nat → Int64) (la : Nat → Int64) (x : Int32) : Int32 × Int32 × Int32 × Int32 × (Nat → Int32) × (Nat → Int64) :=
  if mn = 1 then
    if (lg_cmp (nu (0 : Int32).toNatClampNeg) 0) < 0 then
      if mn ≤ 1 then
        fX9_segment_217 th dc tl xl fo fa mn ft wl dr nu la x 1 0 (vp_updL la (1 : Int32).toNatClampNeg ((la (1 : Int32).toNatClampNeg) + (nu (0 : Int32).toNatClampNeg)))
      else
        fX9_segment_98 th dc tl xl fo fa mn ft wl dr nu la x 7 1 0 (vp_updL la (1 : Int32).toNatClampNeg ((la (1 : Int32).toNatClampNeg) + (nu (0 : Int32).toNatClampNeg)))
    else
      bnd (fX9_within ((vp_updL la (1 : Int32).toNatClampNeg ((la (1 : Int32).toNatClampNeg) + (nu (0 : Int32).toNatClampNeg))) (1 : Int32).toNatClampNeg) 999999) fun r_670 =>
      if r_670 = 0 then
        if mn ≤ 1 then
          fX9_segment_217 th dc tl xl fo fa mn ft wl dr nu la x 1 0 (vp_updL la (1 : Int32).toNatClampNeg ((la (1 : Int32).toNatClampNeg) + (nu (0 : Int32).toNatClampNeg)))
        else
          fX9_segment_98 th dc tl xl fo fa mn ft wl dr nu la x 7 1 0 (vp_updL la (1 : Int32).toNatClampNeg ((la (1 : Int32).toNatClampNeg) + (nu (0 : Int32).toNatClampNeg)))
      else
        if mn ≤ 1 then
          fX9_segment_217 th dc tl xl fo fa mn ft wl dr nu la x 1 1 (vp_updL la (1 : Int32).toNatClampNeg ((la (1 : Int32).toNatClampNeg) + (nu (0 : Int32).toNatClampNeg)))
        else
          fX9_segment_98 th dc tl xl fo fa mn ft wl dr nu la x 7 1 1 (vp_updL la (1 : Int32).toNatClampNeg ((la (1 : Int32).toNatClampNeg) + (nu (0 : Int32).toNatClampNeg)))
  else
    if mn = 4 then
      if (lg_cmp (nu (0 : Int32).toNatClampNeg) 0) < 0 then
        if mn ≤ 1 then
          fX9_segment_217 th dc tl xl fo fa mn ft wl dr nu la x 1 0 (vp_updL la (1 : Int32).toNatClampNeg ((la (1 : Int32).toNatClampNeg) + (nu (0 : Int32).toNatClampNeg)))
        else
          fX9_segment_98 th dc tl xl fo fa mn ft wl dr nu la x 7 1 0 (vp_updL la (1 : Int32).toNatClampNeg ((la (1 : Int32).toNatClampNeg) + (nu (0 : Int32).toNatClampNeg)))
      else
        bnd (fX9_within ((vp_updL la (1 : Int32).toNatClampNeg ((la (1 : Int32).toNatClampNeg) + (nu (0 : Int32).toNatClampNeg))) (1 : Int32).toNatClampNeg) 999999) fun r_888 =>
        if r_888 = 0 then
          if mn ≤ 1 then
            fX9_segment_217 th dc tl xl fo fa mn ft wl dr nu la x 1 0 (vp_updL la (1 : Int32).toNatClampNeg ((la (1 : Int32).toNatClampNeg) + (nu (0 : Int32).toNatClampNeg)))
          else
            fX9_segment_98 th dc tl xl fo fa mn ft wl dr nu la x 7 1 0 (vp_updL la (1 : Int32).toNatClampNeg ((la (1 : Int32).toNatClampNeg) + (nu (0 : Int32).toNatClampNeg)))
        else
          if mn ≤ 1 then
            fX9_segment_217 th dc tl xl fo fa mn ft wl dr nu la x 1 1 (vp_updL la (1 : Int32).toNatClampNeg ((la (1 : Int32).toNatClampNeg) + (nu (0 : Int32).toNatClampNeg)))
          else
            fX9_segment_98 th dc tl xl fo fa mn ft wl dr nu la x 7 1 1 (vp_updL la (1 : Int32).toNatClampNeg ((la (1 : Int32).toNatClampNeg) + (nu (0 : Int32).toNatClampNeg)))
    else
      if mn = 5 then
        if (lg_cmp (nu (0 : Int32).toNatClampNeg) 0) < 0 then
          if mn ≤ 1 then
            fX9_segment_217 th dc tl xl fo fa mn ft wl dr nu la x 1 0 (vp_updL la (1 : Int32).toNatClampNeg ((la (1 : Int32).toNatClampNeg) + (nu (0 : Int32).toNatClampNeg)))
          else
            fX9_segment_98 th dc tl xl fo fa mn ft wl dr nu la x 7 1 0 (vp_updL la (1 : Int32).toNatClampNeg ((la (1 : Int32).toNatClampNeg) + (nu (0 : Int32).toNatClampNeg)))
        else
          bnd (fX9_within ((vp_updL la (1 : Int32).toNatClampNeg ((la (1 : Int32).toNatClampNeg) + (nu (0 : Int32).toNatClampNeg))) (1 : Int32).toNatClampNeg) 999999) fun r_1164 =>
          if r_1164 = 0 then
            if mn ≤ 1 then
              fX9_segment_217 th dc tl xl fo fa mn ft wl dr nu la x 1 0 (vp_updL la (1 : Int32).toNatClampNeg ((la (1 : Int32).toNatClampNeg) + (nu (0 : Int32).toNatClampNeg)))
            else
              fX9_segment_98 th dc tl xl fo fa mn ft wl dr nu la x 7 1 0 (vp_updL la (1 : Int32).toNatClampNeg ((la (1 : Int32).toNatClampNeg) + (nu (0 : Int32).toNatClampNeg)))
          else
            if mn ≤ 1 then
              fX9_segment_217 th dc tl xl fo fa mn ft wl dr nu la x 1 1 (vp_updL la (1 : Int32).toNatClampNeg ((la (1 : Int32).toNatClampNeg) + (nu (0 : Int32).toNatClampNeg)))
            else
              fX9_segment_98 th dc tl xl fo fa mn ft wl dr nu la x 7 1 1 (vp_updL la (1 : Int32).toNatClampNeg ((la (1 : Int32).toNatClampNeg) + (nu (0 : Int32).toNatClampNeg)))
      else
        bnd (fX9_fails th dc tl xl fo fa mn ft wl 3 x) fun r_1318 =>
        (r_1318.1, dc, r_1318.2.1, r_1318.2.2, dr, la)
theorem inc_X9_segment_9 : ∀ w ∈ u_ws RX9 TX9 17, w ∈ wsX9_segment := by decide +kernel
set_option maxHeartbeats 4000000 in
set_option maxRecDepth 100000 in
theorem c_X9_segment (l : Launch) (dC : Nat → ClassId) (dI : Nat → Nat → Nat) (cB cC cI cJ : ClassId) (sz : Nat) (h0 a0 a1 a2 a3 a4 a5 a6 a7 : Nat) (th dc tl xl fo fa mn ft wl : Int32) (dr : Nat → Int32) (nu : Nat → Int64) (la : Nat → Int64) (x : Int32) (hd0 : 0 ≤ dc.toInt) (hd1 : dc.toInt ≤ 300) : Met l yX9_segment wsX9_segment ({ frames := 1, cells := 0, slots := 0, locals := 23 } : Room) (cP dC dI cB cC cI cJ [.ref h0, .int x] sz [(h0, .inr (9, [.int th, .ref a0, .ref a1, .ref a2, .int dc, .ref a3, .int tl, .ref a4, .int xl, .int fo, .int fa, .ref a5, .int mn, .ref a6, .int ft, .ref a7, .int wl])), (a2, .inl (cI, 1800, .inl dr)), (a5, .inl (cJ, 6, .inr (.inl nu))), (a6, .inl (cJ, 6, .inr (.inl la)))]) (va_Qi (fun r _ => r = (fX9_segment th dc tl xl fo fa mn ft wl dr nu la x).1 ∧ (dc.toInt ≤ (fX9_segment th dc tl xl fo fa mn ft wl dr nu la x).2.1.toInt ∧ (fX9_segment th dc tl xl fo fa mn ft wl dr nu la x).2.1.toInt ≤ 300)) (cE dC dI (va_A [(h0, .inr (9, [.int th, .ref a0, .ref a1, .ref a2, .int dc, .ref a3, .int tl, .ref a4, .int xl, .int fo, .int fa, .ref a5, .int mn, .ref a6, .int ft, .ref a7, .int wl])), (a2, .inl (cI, 1800, .inl dr)), (a5, .inl (cJ, 6, .inr (.inl nu))), (a6, .inl (cJ, 6, .inr (.inl la)))] sz) [(h0, .inr (9, [.int th, .ref a0, .ref a1, .ref a2, .int (fX9_segment th dc tl xl fo fa mn ft wl dr nu la x).2.1, .ref a3, .int tl, .ref a4, .int xl, .int (fX9_segment th dc tl xl fo fa mn ft wl dr nu la x).2.2.1, .int (fX9_segment th dc tl xl fo fa mn ft wl dr nu la x).2.2.2.1, .ref a5, .int mn, .ref a6, .int ft, .ref a7, .int wl])), (a2, .inl (cI, 1800, .inl (fX9_segment th dc tl xl fo fa mn ft wl dr nu la x).2.2.2.2.1)), (a5, .inl (cJ, 6, .inr (.inl nu))), (a6, .inl (cJ, 6, .inr (.inl (fX9_segment th dc tl xl fo fa mn ft wl dr nu la x).2.2.2.2.2)))]) (va_A [(h0, .inr (9, [.int th, .ref a0, .ref a1, .ref a2, .int dc, .ref a3, .int tl, .ref a4, .int xl, .int fo, .int fa, .ref a5, .int mn, .ref a6, .int ft, .ref a7, .int wl])), (a2, .inl (cI, 1800, .inl dr)), (a5, .inl (cJ, 6, .inr (.inl nu))), (a6, .inl (cJ, 6, .inr (.inl la)))] sz)) 0 0 (va_A [(h0, .inr (9, [.int th, .ref a0, .ref a1, .ref a2, .int dc, .ref a3, .int tl, .ref a4, .int xl, .int fo, .int fa, .ref a5, .int mn, .ref a6, .int ft, .ref a7, .int wl])), (a2, .inl (cI, 1800, .inl dr)), (a5, .inl (cJ, 6, .inr (.inl nu))), (a6, .inl (cJ, 6, .inr (.inl la)))] sz) := by
  refine Met.ofW (cc := cX9_segment) (maxL := 4) (ret := (some .boolean)) (by decide) rfl ?_
  intro p e s m args below meth c s₁ B hml hv
  obtain ⟨rfl, hsz, hP, hG, hD0⟩ := hv
  have hx := B.exec
  have hb := B.bytes
  have hr := B.returns
  have hts := atoms_spec (ws := wsX9_segment) B.pre
  have hown : s.vm.findClass RX9 = some m.cls := findClass_of_methodNamed B.named
  have hlocks := B.notSynchronized
  subst hsz
  have hD := hD0.self (sz := s.heap.size)
  generalize hAe : va_A [(h0, .inr (9, [.int th, .ref a0, .ref a1, .ref a2, .int dc, .ref a3, .int tl, .ref a4, .int xl, .int fo, .int fa, .ref a5, .int mn, .ref a6, .int ft, .ref a7, .int wl])), (a2, .inl (cI, 1800, .inl dr)), (a5, .inl (cJ, 6, .inr (.inl nu))), (a6, .inl (cJ, 6, .inr (.inl la)))] s.heap.size = A at hD ⊢
  have hA : ∀ q : Nat, s.heap.size ≤ q → A q := fun q h => by rw [← hAe]; exact Or.inr h
  obtain ⟨H, hH⟩ : ∃ H : Heap, H = s.heap := ⟨_, rfl⟩
  have hS : va_S A s.heap H [] := by rw [hH]; exact va_S.rf
  rw [← hH] at hP ⊢
  generalize hR : fX9_segment th dc tl xl fo fa mn ft wl dr nu la x = R
  unfold fX9_segment at hR
  have hl := lv_entry ([.ref h0, .int x]) (n := 4) (Nat.le_of_ble_eq_true rfl)
  rw [lg_entry_eq]
  generalize (lg_sl ([.ref h0, .int x]) ++ List.replicate (4 - (lg_sl ([.ref h0, .int x])).length) Slot.unset).toArray = ls at hl ⊢
  have hl : lv_has ls 4 [(0, .ref h0), (1, .int x)] := hl
  have loop_217 : ∀ (n : Nat), ∀ (gd : Int32) (lz : Nat → Int64) (H : Heap) (locs : List Loc) (ls : Array Slot), fX9_segment_217 th dc tl xl fo fa mn ft wl dr nu la x n gd lz = R → (0 < ((n : Nat) : Int)) → va_P (dC, dI) vwCl [(h0, .inr (9, [.int th, .ref a0, .ref a1, .ref a2, .int dc, .ref a3, .int tl, .ref a4, .int xl, .int fo, .int fa, .ref a5, .int mn, .ref a6, .int ft, .ref a7, .int wl])), (a2, .inl (cI, 1800, .inl dr)), (a5, .inl (cJ, 6, .inr (.inl nu))), (a6, .inl (cJ, 6, .inr (.inl lz)))] H → va_D A [(h0, .inr (9, [.int th, .ref a0, .ref a1, .ref a2, .int dc, .ref a3, .int tl, .ref a4, .int xl, .int fo, .int fa, .ref a5, .int mn, .ref a6, .int ft, .ref a7, .int wl])), (a2, .inl (cI, 1800, .inl dr)), (a5, .inl (cJ, 6, .inr (.inl nu))), (a6, .inl (cJ, 6, .inr (.inl lz)))] → va_S A s.heap H locs → lv_has ls 4 [(0, .ref h0), (1, .int x), (2, .int gd)] → W p l e (headSpec wsX9_segment ({ frames := 1, cells := 0, slots := 0, locals := 23 } : Room)).room s m ([.ref h0, .int x] : List Value).toArray below meth c H locs 0 0 (MQ below (va_Qi (fun r _ => r = R.1 ∧ (dc.toInt ≤ R.2.1.toInt ∧ R.2.1.toInt ≤ 300)) (cE dC dI (A) [(h0, .inr (9, [.int th, .ref a0, .ref a1, .ref a2, .int R.2.1, .ref a3, .int tl, .ref a4, .int xl, .int R.2.2.1, .int R.2.2.2.1, .ref a5, .int mn, .ref a6, .int ft, .ref a7, .int wl])), (a2, .inl (cI, 1800, .inl R.2.2.2.2.1)), (a5, .inl (cJ, 6, .inr (.inl nu))), (a6, .inl (cJ, 6, .inr (.inl R.2.2.2.2.2)))]) (A)) ([.ref h0, .int x] : List Value).toArray s 0 0 A) (F0 m 217 ls []) := by
    intro n
    induction n with
    | zero => intro gd lz H locs ls hR  hmu; exfalso; omega
    | succ n ih =>
      intro gd lz H locs ls hR  hmu hP hD hS hl
      rw [fX9_segment_217] at hR
      refine lv_iload_n hx hb dX9_segment_217 rfl (lv_at hl 2 rfl) ?_
      refine lv_if_ne (tgt := 228) hx hb dX9_segment_218 (by decide) (fun c_1 => ?_) (fun c_1 => ?_)
      · rw [if_neg c_1] at hR
        refine lv_aload_n hx hb dX9_segment_228 rfl (lv_at hl 0 rfl) ?_
        refine va_get (D := (dC, dI)) (ci := 9) (v := .int dc) (C := RX9) (T := TX9) (N := 17) hx hb hts inc_X9_segment_9 hown hG.1 hP 0 rfl rfl 4 (by decide) (hts (.fieldLink RX9 23 "MappingDeskModel" "draftCount" "I") (by decide +kernel)) (fun _ h9 => h9) rfl dX9_segment_229 ?_
        refine lv_sipush (v := 300) hx hb dX9_segment_232 (by decide) ?_
        refine lv_icmp_ne (tgt := 245) hx hb dX9_segment_235 (by decide) (fun c_2 => ?_) (fun c_2 => ?_)
        · rw [if_neg c_2] at hR
          refine lv_bipush (v := 6) hx hb dX9_segment_245 (by decide) ?_
          refine lv_aload_n hx hb dX9_segment_247 rfl (lv_at hl 0 rfl) ?_
          refine va_get (D := (dC, dI)) (ci := 9) (v := .int dc) (C := RX9) (T := TX9) (N := 17) hx hb hts inc_X9_segment_9 hown hG.1 hP 0 rfl rfl 4 (by decide) (hts (.fieldLink RX9 23 "MappingDeskModel" "draftCount" "I") (by decide +kernel)) (fun _ h9 => h9) rfl dX9_segment_248 ?_
          refine lv_imul hx hb dX9_segment_251 ?_
          refine lv_istore_n (lv' := [(3, .int (6 * dc)), (0, .ref h0), (1, .int x), (2, .int gd)]) hx hb dX9_segment_252 rfl hl (by decide) rfl (fun ls hl => ?_)
          refine lv_aload_n hx hb dX9_segment_253 rfl (lv_at hl 1 rfl) ?_
          refine va_get (D := (dC, dI)) (ci := 9) (v := .ref a2) (C := RX9) (T := TX9) (N := 17) hx hb hts inc_X9_segment_9 hown hG.1 hP 0 rfl rfl 3 (by decide) (hts (.fieldLink RX9 20 "MappingDeskModel" "draft" "[I") (by decide +kernel)) (fun _ h9 => h9) rfl dX9_segment_254 ?_
          refine lv_iload_n hx hb dX9_segment_257 rfl (lv_at hl 0 rfl) ?_
          refine lv_aload_n hx hb dX9_segment_258 rfl (lv_at hl 1 rfl) ?_
          refine va_get (D := (dC, dI)) (ci := 9) (v := .ref a6) (C := RX9) (T := TX9) (N := 17) hx hb hts inc_X9_segment_9 hown hG.1 hP 0 rfl rfl 13 (by decide) (hts (.fieldLink RX9 52 "MappingDeskModel" "latest" "[J") (by decide +kernel)) (fun _ h9 => h9) rfl dX9_segment_259 ?_
          refine lv_iconst (v := 0) hx hb dX9_segment_262 (by decide) ?_
          have b_3 : vp_in 0 6 := by
            have k_4 : (0 : Int32).toInt = 0 := by decide
            have q_5 := i_ne c_1
            have k_6 : (300 : Int32).toInt = 300 := by decide
            have q_7 := i_ne c_2
            refine vin ?_ ?_
            all_goals (try generalize Int32.toInt (300 : Int32) = z0 at *; try generalize Int32.toInt dc = z1 at *; try generalize Int32.toInt gd = z2 at *; try generalize Int32.toInt (0 : Int32) = z3 at *; omega)
          refine va_lald hx hb hG.1 hP 3 3 rfl rfl b_3 dX9_segment_263 ?_
          refine lv_l2i hx hb dX9_segment_264 rfl ?_
          have b_10 : vp_in (6 * dc) 1800 := by
            have k_11 : (0 : Int32).toInt = 0 := by decide
            have q_12 := i_ne c_1
            have k_13 : (300 : Int32).toInt = 300 := by decide
            have q_14 := i_ne c_2
            have k_15 : (6 : Int32).toInt = 6 := by decide
            have t_16 : ((6 * dc)).toInt = 6 * (dc).toInt := by
              have z := ti_mul (a := 6) (b := dc) (by rw [show (6 : Int32).toInt = 6 from by decide]; omega) (by rw [show (6 : Int32).toInt = 6 from by decide]; omega)
              rw [z, show (6 : Int32).toInt = 6 from by decide]
            refine vin ?_ ?_
            all_goals (try generalize Int32.toInt (6 * dc) = z0 at *; try generalize Int32.toInt (300 : Int32) = z1 at *; try generalize Int32.toInt dc = z2 at *; try generalize Int32.toInt gd = z3 at *; try generalize Int32.toInt (0 : Int32) = z4 at *; try generalize Int32.toInt (6 : Int32) = z5 at *; omega)
          refine va_iast hx hb hG.1 hP hD hS 1 2 rfl rfl b_10 dX9_segment_265 (fun H locs hP hD hS => ?_)
          have hP : va_P (dC, dI) vwCl [(h0, .inr (9, [.int th, .ref a0, .ref a1, .ref a2, .int dc, .ref a3, .int tl, .ref a4, .int xl, .int fo, .int fa, .ref a5, .int mn, .ref a6, .int ft, .ref a7, .int wl])), (a2, .inl (cI, 1800, .inl (upd dr (6 * dc).toNatClampNeg (((lz (0 : Int32).toNatClampNeg) : Int64).toInt32)))), (a5, .inl (cJ, 6, .inr (.inl nu))), (a6, .inl (cJ, 6, .inr (.inl lz)))] H := hP
          have hD : va_D A [(h0, .inr (9, [.int th, .ref a0, .ref a1, .ref a2, .int dc, .ref a3, .int tl, .ref a4, .int xl, .int fo, .int fa, .ref a5, .int mn, .ref a6, .int ft, .ref a7, .int wl])), (a2, .inl (cI, 1800, .inl (upd dr (6 * dc).toNatClampNeg (((lz (0 : Int32).toNatClampNeg) : Int64).toInt32)))), (a5, .inl (cJ, 6, .inr (.inl nu))), (a6, .inl (cJ, 6, .inr (.inl lz)))] := hD
          refine lv_aload_n hx hb dX9_segment_266 rfl (lv_at hl 1 rfl) ?_
          refine va_get (D := (dC, dI)) (ci := 9) (v := .ref a2) (C := RX9) (T := TX9) (N := 17) hx hb hts inc_X9_segment_9 hown hG.1 hP 0 rfl rfl 3 (by decide) (hts (.fieldLink RX9 20 "MappingDeskModel" "draft" "[I") (by decide +kernel)) (fun _ h9 => h9) rfl dX9_segment_267 ?_
          refine lv_iload_n hx hb dX9_segment_270 rfl (lv_at hl 0 rfl) ?_
          refine lv_iconst (v := 1) hx hb dX9_segment_271 (by decide) ?_
          refine lv_iadd hx hb dX9_segment_272 ?_
          refine lv_aload_n hx hb dX9_segment_273 rfl (lv_at hl 1 rfl) ?_
          refine va_get (D := (dC, dI)) (ci := 9) (v := .ref a6) (C := RX9) (T := TX9) (N := 17) hx hb hts inc_X9_segment_9 hown hG.1 hP 0 rfl rfl 13 (by decide) (hts (.fieldLink RX9 52 "MappingDeskModel" "latest" "[J") (by decide +kernel)) (fun _ h9 => h9) rfl dX9_segment_274 ?_
          refine lv_iconst (v := 1) hx hb dX9_segment_277 (by decide) ?_
          have b_19 : vp_in 1 6 := by
            have k_20 : (0 : Int32).toInt = 0 := by decide
            have q_21 := i_ne c_1
            have k_22 : (300 : Int32).toInt = 300 := by decide
            have q_23 := i_ne c_2
            have k_24 : (1 : Int32).toInt = 1 := by decide
            refine vin ?_ ?_
            all_goals (try generalize Int32.toInt (300 : Int32) = z0 at *; try generalize Int32.toInt dc = z1 at *; try generalize Int32.toInt gd = z2 at *; try generalize Int32.toInt (0 : Int32) = z3 at *; try generalize Int32.toInt (1 : Int32) = z4 at *; omega)
          refine va_lald hx hb hG.1 hP 3 3 rfl rfl b_19 dX9_segment_278 ?_
          refine lv_l2i hx hb dX9_segment_279 rfl ?_
          have b_27 : vp_in ((6 * dc) + 1) 1800 := by
            have k_28 : (0 : Int32).toInt = 0 := by decide
            have q_29 := i_ne c_1
            have k_30 : (300 : Int32).toInt = 300 := by decide
            have q_31 := i_ne c_2
            have k_32 : (6 : Int32).toInt = 6 := by decide
            have t_33 : ((6 * dc)).toInt = 6 * (dc).toInt := by
              have z := ti_mul (a := 6) (b := dc) (by rw [show (6 : Int32).toInt = 6 from by decide]; omega) (by rw [show (6 : Int32).toInt = 6 from by decide]; omega)
              rw [z, show (6 : Int32).toInt = 6 from by decide]
            have k_34 : (1 : Int32).toInt = 1 := by decide
            have t_35 := ti_add (a := (6 * dc)) (b := 1) (by omega) (by omega)
            refine vin ?_ ?_
            all_goals (try generalize Int32.toInt ((6 * dc) + 1) = z0 at *; try generalize Int32.toInt (6 * dc) = z1 at *; try generalize Int32.toInt (300 : Int32) = z2 at *; try generalize Int32.toInt dc = z3 at *; try generalize Int32.toInt gd = z4 at *; try generalize Int32.toInt (0 : Int32) = z5 at *; try generalize Int32.toInt (1 : Int32) = z6 at *; try generalize Int32.toInt (6 : Int32) = z7 at *; omega)
          refine va_iast hx hb hG.1 hP hD hS 1 2 rfl rfl b_27 dX9_segment_280 (fun H locs hP hD hS => ?_)
          have hP : va_P (dC, dI) vwCl [(h0, .inr (9, [.int th, .ref a0, .ref a1, .ref a2, .int dc, .ref a3, .int tl, .ref a4, .int xl, .int fo, .int fa, .ref a5, .int mn, .ref a6, .int ft, .ref a7, .int wl])), (a2, .inl (cI, 1800, .inl (upd (upd dr (6 * dc).toNatClampNeg (((lz (0 : Int32).toNatClampNeg) : Int64).toInt32)) ((6 * dc) + 1).toNatClampNeg (((lz (1 : Int32).toNatClampNeg) : Int64).toInt32)))), (a5, .inl (cJ, 6, .inr (.inl nu))), (a6, .inl (cJ, 6, .inr (.inl lz)))] H := hP
          have hD : va_D A [(h0, .inr (9, [.int th, .ref a0, .ref a1, .ref a2, .int dc, .ref a3, .int tl, .ref a4, .int xl, .int fo, .int fa, .ref a5, .int mn, .ref a6, .int ft, .ref a7, .int wl])), (a2, .inl (cI, 1800, .inl (upd (upd dr (6 * dc).toNatClampNeg (((lz (0 : Int32).toNatClampNeg) : Int64).toInt32)) ((6 * dc) + 1).toNatClampNeg (((lz (1 : Int32).toNatClampNeg) : Int64).toInt32)))), (a5, .inl (cJ, 6, .inr (.inl nu))), (a6, .inl (cJ, 6, .inr (.inl lz)))] := hD
          refine lv_aload_n hx hb dX9_segment_281 rfl (lv_at hl 1 rfl) ?_
          refine va_get (D := (dC, dI)) (ci := 9) (v := .ref a2) (C := RX9) (T := TX9) (N := 17) hx hb hts inc_X9_segment_9 hown hG.1 hP 0 rfl rfl 3 (by decide) (hts (.fieldLink RX9 20 "MappingDeskModel" "draft" "[I") (by decide +kernel)) (fun _ h9 => h9) rfl dX9_segment_282 ?_
          refine lv_iload_n hx hb dX9_segment_285 rfl (lv_at hl 0 rfl) ?_
          refine lv_iconst (v := 2) hx hb dX9_segment_286 (by decide) ?_
          refine lv_iadd hx hb dX9_segment_287 ?_
          refine lv_aload_n hx hb dX9_segment_288 rfl (lv_at hl 1 rfl) ?_
          refine va_get (D := (dC, dI)) (ci := 9) (v := .int mn) (C := RX9) (T := TX9) (N := 17) hx hb hts inc_X9_segment_9 hown hG.1 hP 0 rfl rfl 12 (by decide) (hts (.fieldLink RX9 49 "MappingDeskModel" "many" "I") (by decide +kernel)) (fun _ h9 => h9) rfl dX9_segment_289 ?_
          refine lv_iconst (v := 1) hx hb dX9_segment_292 (by decide) ?_
          refine lv_icmp_ne (tgt := 300) hx hb dX9_segment_293 (by decide) (fun c_38 => ?_) (fun c_38 => ?_)
          · rw [if_neg c_38] at hR
            refine lv_aload_n hx hb dX9_segment_300 rfl (lv_at hl 1 rfl) ?_
            refine va_get (D := (dC, dI)) (ci := 9) (v := .ref a6) (C := RX9) (T := TX9) (N := 17) hx hb hts inc_X9_segment_9 hown hG.1 hP 0 rfl rfl 13 (by decide) (hts (.fieldLink RX9 52 "MappingDeskModel" "latest" "[J") (by decide +kernel)) (fun _ h9 => h9) rfl dX9_segment_301 ?_
            refine lv_iconst (v := 2) hx hb dX9_segment_304 (by decide) ?_
            have b_39 : vp_in 2 6 := by
              have k_40 : (0 : Int32).toInt = 0 := by decide
              have q_41 := i_ne c_1
              have k_42 : (300 : Int32).toInt = 300 := by decide
              have q_43 := i_ne c_2
              have k_44 : (1 : Int32).toInt = 1 := by decide
              have q_45 := i_ne c_38
              have k_46 : (2 : Int32).toInt = 2 := by decide
              refine vin ?_ ?_
              all_goals (try generalize Int32.toInt (300 : Int32) = z0 at *; try generalize Int32.toInt dc = z1 at *; try generalize Int32.toInt gd = z2 at *; try generalize Int32.toInt mn = z3 at *; try generalize Int32.toInt (0 : Int32) = z4 at *; try generalize Int32.toInt (1 : Int32) = z5 at *; try generalize Int32.toInt (2 : Int32) = z6 at *; omega)
            refine va_lald hx hb hG.1 hP 3 3 rfl rfl b_39 dX9_segment_305 ?_
            refine lv_l2i hx hb dX9_segment_306 rfl ?_
            have b_49 : vp_in ((6 * dc) + 2) 1800 := by
              have k_50 : (0 : Int32).toInt = 0 := by decide
              have q_51 := i_ne c_1
              have k_52 : (300 : Int32).toInt = 300 := by decide
              have q_53 := i_ne c_2
              have k_54 : (1 : Int32).toInt = 1 := by decide
              have q_55 := i_ne c_38
              have k_56 : (6 : Int32).toInt = 6 := by decide
              have t_57 : ((6 * dc)).toInt = 6 * (dc).toInt := by
                have z := ti_mul (a := 6) (b := dc) (by rw [show (6 : Int32).toInt = 6 from by decide]; omega) (by rw [show (6 : Int32).toInt = 6 from by decide]; omega)
                rw [z, show (6 : Int32).toInt = 6 from by decide]
              have k_58 : (2 : Int32).toInt = 2 := by decide
              have t_59 := ti_add (a := (6 * dc)) (b := 2) (by omega) (by omega)
              refine vin ?_ ?_
              all_goals (try generalize Int32.toInt ((6 * dc) + 2) = z0 at *; try generalize Int32.toInt (6 * dc) = z1 at *; try generalize Int32.toInt (300 : Int32) = z2 at *; try generalize Int32.toInt dc = z3 at *; try generalize Int32.toInt gd = z4 at *; try generalize Int32.toInt mn = z5 at *; try generalize Int32.toInt (0 : Int32) = z6 at *; try generalize Int32.toInt (1 : Int32) = z7 at *; try generalize Int32.toInt (2 : Int32) = z8 at *; try generalize Int32.toInt (6 : Int32) = z9 at *; omega)
            refine va_iast hx hb hG.1 hP hD hS 1 2 rfl rfl b_49 dX9_segment_307 (fun H locs hP hD hS => ?_)
            have hP : va_P (dC, dI) vwCl [(h0, .inr (9, [.int th, .ref a0, .ref a1, .ref a2, .int dc, .ref a3, .int tl, .ref a4, .int xl, .int fo, .int fa, .ref a5, .int mn, .ref a6, .int ft, .ref a7, .int wl])), (a2, .inl (cI, 1800, .inl (upd (upd (upd dr (6 * dc).toNatClampNeg (((lz (0 : Int32).toNatClampNeg) : Int64).toInt32)) ((6 * dc) + 1).toNatClampNeg (((lz (1 : Int32).toNatClampNeg) : Int64).toInt32)) ((6 * dc) + 2).toNatClampNeg (((lz (2 : Int32).toNatClampNeg) : Int64).toInt32)))), (a5, .inl (cJ, 6, .inr (.inl nu))), (a6, .inl (cJ, 6, .inr (.inl lz)))] H := hP
            have hD : va_D A [(h0, .inr (9, [.int th, .ref a0, .ref a1, .ref a2, .int dc, .ref a3, .int tl, .ref a4, .int xl, .int fo, .int fa, .ref a5, .int mn, .ref a6, .int ft, .ref a7, .int wl])), (a2, .inl (cI, 1800, .inl (upd (upd (upd dr (6 * dc).toNatClampNeg (((lz (0 : Int32).toNatClampNeg) : Int64).toInt32)) ((6 * dc) + 1).toNatClampNeg (((lz (1 : Int32).toNatClampNeg) : Int64).toInt32)) ((6 * dc) + 2).toNatClampNeg (((lz (2 : Int32).toNatClampNeg) : Int64).toInt32)))), (a5, .inl (cJ, 6, .inr (.inl nu))), (a6, .inl (cJ, 6, .inr (.inl lz)))] := hD
            refine lv_aload_n hx hb dX9_segment_308 rfl (lv_at hl 1 rfl) ?_
            refine va_get (D := (dC, dI)) (ci := 9) (v := .ref a2) (C := RX9) (T := TX9) (N := 17) hx hb hts inc_X9_segment_9 hown hG.1 hP 0 rfl rfl 3 (by decide) (hts (.fieldLink RX9 20 "MappingDeskModel" "draft" "[I") (by decide +kernel)) (fun _ h9 => h9) rfl dX9_segment_309 ?_
            refine lv_iload_n hx hb dX9_segment_312 rfl (lv_at hl 0 rfl) ?_
            refine lv_iconst (v := 3) hx hb dX9_segment_313 (by decide) ?_
            refine lv_iadd hx hb dX9_segment_314 ?_
            refine lv_aload_n hx hb dX9_segment_315 rfl (lv_at hl 1 rfl) ?_
            refine va_get (D := (dC, dI)) (ci := 9) (v := .int mn) (C := RX9) (T := TX9) (N := 17) hx hb hts inc_X9_segment_9 hown hG.1 hP 0 rfl rfl 12 (by decide) (hts (.fieldLink RX9 49 "MappingDeskModel" "many" "I") (by decide +kernel)) (fun _ h9 => h9) rfl dX9_segment_316 ?_
            refine lv_iconst (v := 1) hx hb dX9_segment_319 (by decide) ?_
            refine lv_icmp_ne (tgt := 327) hx hb dX9_segment_320 (by decide) (fun c_62 => ?_) (fun c_62 => ?_)
            · refine lv_aload_n hx hb dX9_segment_327 rfl (lv_at hl 1 rfl) ?_
              refine va_get (D := (dC, dI)) (ci := 9) (v := .ref a6) (C := RX9) (T := TX9) (N := 17) hx hb hts inc_X9_segment_9 hown hG.1 hP 0 rfl rfl 13 (by decide) (hts (.fieldLink RX9 52 "MappingDeskModel" "latest" "[J") (by decide +kernel)) (fun _ h9 => h9) rfl dX9_segment_328 ?_
              refine lv_iconst (v := 3) hx hb dX9_segment_331 (by decide) ?_
              have b_63 : vp_in 3 6 := by
                have k_64 : (0 : Int32).toInt = 0 := by decide
                have q_65 := i_ne c_1
                have k_66 : (300 : Int32).toInt = 300 := by decide
                have q_67 := i_ne c_2
                have k_68 : (1 : Int32).toInt = 1 := by decide
                have q_69 := i_ne c_38
                have q_70 := i_ne c_62
                have k_71 : (3 : Int32).toInt = 3 := by decide
                refine vin ?_ ?_
                all_goals (try generalize Int32.toInt (300 : Int32) = z0 at *; try generalize Int32.toInt dc = z1 at *; try generalize Int32.toInt gd = z2 at *; try generalize Int32.toInt mn = z3 at *; try generalize Int32.toInt (0 : Int32) = z4 at *; try generalize Int32.toInt (1 : Int32) = z5 at *; try generalize Int32.toInt (3 : Int32) = z6 at *; omega)
              refine va_lald hx hb hG.1 hP 3 3 rfl rfl b_63 dX9_segment_332 ?_
              refine lv_l2i hx hb dX9_segment_333 rfl ?_
              have b_74 : vp_in ((6 * dc) + 3) 1800 := by
                have k_75 : (0 : Int32).toInt = 0 := by decide
                have q_76 := i_ne c_1
                have k_77 : (300 : Int32).toInt = 300 := by decide
                have q_78 := i_ne c_2
                have k_79 : (1 : Int32).toInt = 1 := by decide
                have q_80 := i_ne c_38
                have q_81 := i_ne c_62
                have k_82 : (6 : Int32).toInt = 6 := by decide
                have t_83 : ((6 * dc)).toInt = 6 * (dc).toInt := by
                  have z := ti_mul (a := 6) (b := dc) (by rw [show (6 : Int32).toInt = 6 from by decide]; omega) (by rw [show (6 : Int32).toInt = 6 from by decide]; omega)
                  rw [z, show (6 : Int32).toInt = 6 from by decide]
                have k_84 : (3 : Int32).toInt = 3 := by decide
                have t_85 := ti_add (a := (6 * dc)) (b := 3) (by omega) (by omega)
                refine vin ?_ ?_
                all_goals (try generalize Int32.toInt ((6 * dc) + 3) = z0 at *; try generalize Int32.toInt (6 * dc) = z1 at *; try generalize Int32.toInt (300 : Int32) = z2 at *; try generalize Int32.toInt dc = z3 at *; try generalize Int32.toInt gd = z4 at *; try generalize Int32.toInt mn = z5 at *; try generalize Int32.toInt (0 : Int32) = z6 at *; try generalize Int32.toInt (1 : Int32) = z7 at *; try generalize Int32.toInt (3 : Int32) = z8 at *; try generalize Int32.toInt (6 : Int32) = z9 at *; omega)
              refine va_iast hx hb hG.1 hP hD hS 1 2 rfl rfl b_74 dX9_segment_334 (fun H locs hP hD hS => ?_)
              have hP : va_P (dC, dI) vwCl [(h0, .inr (9, [.int th, .ref a0, .ref a1, .ref a2, .int dc, .ref a3, .int tl, .ref a4, .int xl, .int fo, .int fa, .ref a5, .int mn, .ref a6, .int ft, .ref a7, .int wl])), (a2, .inl (cI, 1800, .inl (upd (upd (upd (upd dr (6 * dc).toNatClampNeg (((lz (0 : Int32).toNatClampNeg) : Int64).toInt32)) ((6 * dc) + 1).toNatClampNeg (((lz (1 : Int32).toNatClampNeg) : Int64).toInt32)) ((6 * dc) + 2).toNatClampNeg (((lz (2 : Int32).toNatClampNeg) : Int64).toInt32)) ((6 * dc) + 3).toNatClampNeg (((lz (3 : Int32).toNatClampNeg) : Int64).toInt32)))), (a5, .inl (cJ, 6, .inr (.inl nu))), (a6, .inl (cJ, 6, .inr (.inl lz)))] H := hP
              have hD : va_D A [(h0, .inr (9, [.int th, .ref a0, .ref a1, .ref a2, .int dc, .ref a3, .int tl, .ref a4, .int xl, .int fo, .int fa, .ref a5, .int mn, .ref a6, .int ft, .ref a7, .int wl])), (a2, .inl (cI, 1800, .inl (upd (upd (upd (upd dr (6 * dc).toNatClampNeg (((lz (0 : Int32).toNatClampNeg) : Int64).toInt32)) ((6 * dc) + 1).toNatClampNeg (((lz (1 : Int32).toNatClampNeg) : Int64).toInt32)) ((6 * dc) + 2).toNatClampNeg (((lz (2 : Int32).toNatClampNeg) : Int64).toInt32)) ((6 * dc) + 3).toNatClampNeg (((lz (3 : Int32).toNatClampNeg) : Int64).toInt32)))), (a5, .inl (cJ, 6, .inr (.inl nu))), (a6, .inl (cJ, 6, .inr (.inl lz)))] := hD
              refine lv_aload_n hx hb dX9_segment_335 rfl (lv_at hl 1 rfl) ?_
              refine va_get (D := (dC, dI)) (ci := 9) (v := .ref a2) (C := RX9) (T := TX9) (N := 17) hx hb hts inc_X9_segment_9 hown hG.1 hP 0 rfl rfl 3 (by decide) (hts (.fieldLink RX9 20 "MappingDeskModel" "draft" "[I") (by decide +kernel)) (fun _ h9 => h9) rfl dX9_segment_336 ?_
              refine lv_iload_n hx hb dX9_segment_339 rfl (lv_at hl 0 rfl) ?_
              refine lv_iconst (v := 4) hx hb dX9_segment_340 (by decide) ?_
              refine lv_iadd hx hb dX9_segment_341 ?_
              refine lv_aload_n hx hb dX9_segment_342 rfl (lv_at hl 1 rfl) ?_
              refine va_get (D := (dC, dI)) (ci := 9) (v := .int mn) (C := RX9) (T := TX9) (N := 17) hx hb hts inc_X9_segment_9 hown hG.1 hP 0 rfl rfl 12 (by decide) (hts (.fieldLink RX9 49 "MappingDeskModel" "many" "I") (by decide +kernel)) (fun _ h9 => h9) rfl dX9_segment_343 ?_
              refine lv_iconst (v := 1) hx hb dX9_segment_346 (by decide) ?_
              refine lv_icmp_ne (tgt := 354) hx hb dX9_segment_347 (by decide) (fun c_88 => ?_) (fun c_88 => ?_)
              · refine lv_aload_n hx hb dX9_segment_354 rfl (lv_at hl 1 rfl) ?_
                refine va_get (D := (dC, dI)) (ci := 9) (v := .ref a6) (C := RX9) (T := TX9) (N := 17) hx hb hts inc_X9_segment_9 hown hG.1 hP 0 rfl rfl 13 (by decide) (hts (.fieldLink RX9 52 "MappingDeskModel" "latest" "[J") (by decide +kernel)) (fun _ h9 => h9) rfl dX9_segment_355 ?_
                refine lv_iconst (v := 4) hx hb dX9_segment_358 (by decide) ?_
                have b_89 : vp_in 4 6 := by
                  have k_90 : (0 : Int32).toInt = 0 := by decide
                  have q_91 := i_ne c_1
                  have k_92 : (300 : Int32).toInt = 300 := by decide
                  have q_93 := i_ne c_2
                  have k_94 : (1 : Int32).toInt = 1 := by decide
                  have q_95 := i_ne c_38
                  have q_96 := i_ne c_62
                  have q_97 := i_ne c_88
                  have k_98 : (4 : Int32).toInt = 4 := by decide
                  refine vin ?_ ?_
                  all_goals (try generalize Int32.toInt (300 : Int32) = z0 at *; try generalize Int32.toInt dc = z1 at *; try generalize Int32.toInt gd = z2 at *; try generalize Int32.toInt mn = z3 at *; try generalize Int32.toInt (0 : Int32) = z4 at *; try generalize Int32.toInt (1 : Int32) = z5 at *; try generalize Int32.toInt (4 : Int32) = z6 at *; omega)
                refine va_lald hx hb hG.1 hP 3 3 rfl rfl b_89 dX9_segment_359 ?_
                refine lv_l2i hx hb dX9_segment_360 rfl ?_
                have b_101 : vp_in ((6 * dc) + 4) 1800 := by
                  have k_102 : (0 : Int32).toInt = 0 := by decide
                  have q_103 := i_ne c_1
                  have k_104 : (300 : Int32).toInt = 300 := by decide
                  have q_105 := i_ne c_2
                  have k_106 : (1 : Int32).toInt = 1 := by decide
                  have q_107 := i_ne c_38
                  have q_108 := i_ne c_62
                  have q_109 := i_ne c_88
                  have k_110 : (6 : Int32).toInt = 6 := by decide
                  have t_111 : ((6 * dc)).toInt = 6 * (dc).toInt := by
                    have z := ti_mul (a := 6) (b := dc) (by rw [show (6 : Int32).toInt = 6 from by decide]; omega) (by rw [show (6 : Int32).toInt = 6 from by decide]; omega)
                    rw [z, show (6 : Int32).toInt = 6 from by decide]
                  have k_112 : (4 : Int32).toInt = 4 := by decide
                  have t_113 := ti_add (a := (6 * dc)) (b := 4) (by omega) (by omega)
                  refine vin ?_ ?_
                  all_goals (try generalize Int32.toInt ((6 * dc) + 4) = z0 at *; try generalize Int32.toInt (6 * dc) = z1 at *; try generalize Int32.toInt (300 : Int32) = z2 at *; try generalize Int32.toInt dc = z3 at *; try generalize Int32.toInt gd = z4 at *; try generalize Int32.toInt mn = z5 at *; try generalize Int32.toInt (0 : Int32) = z6 at *; try generalize Int32.toInt (1 : Int32) = z7 at *; try generalize Int32.toInt (4 : Int32) = z8 at *; try generalize Int32.toInt (6 : Int32) = z9 at *; omega)
                refine va_iast hx hb hG.1 hP hD hS 1 2 rfl rfl b_101 dX9_segment_361 (fun H locs hP hD hS => ?_)
                have hP : va_P (dC, dI) vwCl [(h0, .inr (9, [.int th, .ref a0, .ref a1, .ref a2, .int dc, .ref a3, .int tl, .ref a4, .int xl, .int fo, .int fa, .ref a5, .int mn, .ref a6, .int ft, .ref a7, .int wl])), (a2, .inl (cI, 1800, .inl (upd (upd (upd (upd (upd dr (6 * dc).toNatClampNeg (((lz (0 : Int32).toNatClampNeg) : Int64).toInt32)) ((6 * dc) + 1).toNatClampNeg (((lz (1 : Int32).toNatClampNeg) : Int64).toInt32)) ((6 * dc) + 2).toNatClampNeg (((lz (2 : Int32).toNatClampNeg) : Int64).toInt32)) ((6 * dc) + 3).toNatClampNeg (((lz (3 : Int32).toNatClampNeg) : Int64).toInt32)) ((6 * dc) + 4).toNatClampNeg (((lz (4 : Int32).toNatClampNeg) : Int64).toInt32)))), (a5, .inl (cJ, 6, .inr (.inl nu))), (a6, .inl (cJ, 6, .inr (.inl lz)))] H := hP
                have hD : va_D A [(h0, .inr (9, [.int th, .ref a0, .ref a1, .ref a2, .int dc, .ref a3, .int tl, .ref a4, .int xl, .int fo, .int fa, .ref a5, .int mn, .ref a6, .int ft, .ref a7, .int wl])), (a2, .inl (cI, 1800, .inl (upd (upd (upd (upd (upd dr (6 * dc).toNatClampNeg (((lz (0 : Int32).toNatClampNeg) : Int64).toInt32)) ((6 * dc) + 1).toNatClampNeg (((lz (1 : Int32).toNatClampNeg) : Int64).toInt32)) ((6 * dc) + 2).toNatClampNeg (((lz (2 : Int32).toNatClampNeg) : Int64).toInt32)) ((6 * dc) + 3).toNatClampNeg (((lz (3 : Int32).toNatClampNeg) : Int64).toInt32)) ((6 * dc) + 4).toNatClampNeg (((lz (4 : Int32).toNatClampNeg) : Int64).toInt32)))), (a5, .inl (cJ, 6, .inr (.inl nu))), (a6, .inl (cJ, 6, .inr (.inl lz)))] := hD
                refine lv_aload_n hx hb dX9_segment_362 rfl (lv_at hl 1 rfl) ?_
                refine va_get (D := (dC, dI)) (ci := 9) (v := .ref a2) (C := RX9) (T := TX9) (N := 17) hx hb hts inc_X9_segment_9 hown hG.1 hP 0 rfl rfl 3 (by decide) (hts (.fieldLink RX9 20 "MappingDeskModel" "draft" "[I") (by decide +kernel)) (fun _ h9 => h9) rfl dX9_segment_363 ?_
                refine lv_iload_n hx hb dX9_segment_366 rfl (lv_at hl 0 rfl) ?_
                refine lv_iconst (v := 5) hx hb dX9_segment_367 (by decide) ?_
                refine lv_iadd hx hb dX9_segment_368 ?_
                refine lv_aload_n hx hb dX9_segment_369 rfl (lv_at hl 1 rfl) ?_
                refine va_get (D := (dC, dI)) (ci := 9) (v := .int mn) (C := RX9) (T := TX9) (N := 17) hx hb hts inc_X9_segment_9 hown hG.1 hP 0 rfl rfl 12 (by decide) (hts (.fieldLink RX9 49 "MappingDeskModel" "many" "I") (by decide +kernel)) (fun _ h9 => h9) rfl dX9_segment_370 ?_
                refine lv_iconst (v := 5) hx hb dX9_segment_373 (by decide) ?_
                refine lv_icmp_ne (tgt := 387) hx hb dX9_segment_374 (by decide) (fun c_116 => ?_) (fun c_116 => ?_)
                · rw [if_neg c_116] at hR
                  refine lv_iconst (v := (-1)) hx hb dX9_segment_387 (by decide) ?_
                  have b_117 : vp_in ((6 * dc) + 5) 1800 := by
                    have k_118 : (0 : Int32).toInt = 0 := by decide
                    have q_119 := i_ne c_1
                    have k_120 : (300 : Int32).toInt = 300 := by decide
                    have q_121 := i_ne c_2
                    have k_122 : (1 : Int32).toInt = 1 := by decide
                    have q_123 := i_ne c_38
                    have q_124 := i_ne c_62
                    have q_125 := i_ne c_88
                    have k_126 : (5 : Int32).toInt = 5 := by decide
                    have q_127 := i_ne c_116
                    have k_128 : (6 : Int32).toInt = 6 := by decide
                    have t_129 : ((6 * dc)).toInt = 6 * (dc).toInt := by
                      have z := ti_mul (a := 6) (b := dc) (by rw [show (6 : Int32).toInt = 6 from by decide]; omega) (by rw [show (6 : Int32).toInt = 6 from by decide]; omega)
                      rw [z, show (6 : Int32).toInt = 6 from by decide]
                    have t_130 := ti_add (a := (6 * dc)) (b := 5) (by omega) (by omega)
                    refine vin ?_ ?_
                    all_goals (try generalize Int32.toInt ((6 * dc) + 5) = z0 at *; try generalize Int32.toInt (6 * dc) = z1 at *; try generalize Int32.toInt (300 : Int32) = z2 at *; try generalize Int32.toInt dc = z3 at *; try generalize Int32.toInt gd = z4 at *; try generalize Int32.toInt mn = z5 at *; try generalize Int32.toInt (0 : Int32) = z6 at *; try generalize Int32.toInt (1 : Int32) = z7 at *; try generalize Int32.toInt (5 : Int32) = z8 at *; try generalize Int32.toInt (6 : Int32) = z9 at *; omega)
                  refine va_iast hx hb hG.1 hP hD hS 1 2 rfl rfl b_117 dX9_segment_388 (fun H locs hP hD hS => ?_)
                  have hP : va_P (dC, dI) vwCl [(h0, .inr (9, [.int th, .ref a0, .ref a1, .ref a2, .int dc, .ref a3, .int tl, .ref a4, .int xl, .int fo, .int fa, .ref a5, .int mn, .ref a6, .int ft, .ref a7, .int wl])), (a2, .inl (cI, 1800, .inl (upd (upd (upd (upd (upd (upd dr (6 * dc).toNatClampNeg (((lz (0 : Int32).toNatClampNeg) : Int64).toInt32)) ((6 * dc) + 1).toNatClampNeg (((lz (1 : Int32).toNatClampNeg) : Int64).toInt32)) ((6 * dc) + 2).toNatClampNeg (((lz (2 : Int32).toNatClampNeg) : Int64).toInt32)) ((6 * dc) + 3).toNatClampNeg (((lz (3 : Int32).toNatClampNeg) : Int64).toInt32)) ((6 * dc) + 4).toNatClampNeg (((lz (4 : Int32).toNatClampNeg) : Int64).toInt32)) ((6 * dc) + 5).toNatClampNeg (-1)))), (a5, .inl (cJ, 6, .inr (.inl nu))), (a6, .inl (cJ, 6, .inr (.inl lz)))] H := hP
                  have hD : va_D A [(h0, .inr (9, [.int th, .ref a0, .ref a1, .ref a2, .int dc, .ref a3, .int tl, .ref a4, .int xl, .int fo, .int fa, .ref a5, .int mn, .ref a6, .int ft, .ref a7, .int wl])), (a2, .inl (cI, 1800, .inl (upd (upd (upd (upd (upd (upd dr (6 * dc).toNatClampNeg (((lz (0 : Int32).toNatClampNeg) : Int64).toInt32)) ((6 * dc) + 1).toNatClampNeg (((lz (1 : Int32).toNatClampNeg) : Int64).toInt32)) ((6 * dc) + 2).toNatClampNeg (((lz (2 : Int32).toNatClampNeg) : Int64).toInt32)) ((6 * dc) + 3).toNatClampNeg (((lz (3 : Int32).toNatClampNeg) : Int64).toInt32)) ((6 * dc) + 4).toNatClampNeg (((lz (4 : Int32).toNatClampNeg) : Int64).toInt32)) ((6 * dc) + 5).toNatClampNeg (-1)))), (a5, .inl (cJ, 6, .inr (.inl nu))), (a6, .inl (cJ, 6, .inr (.inl lz)))] := hD
                  refine lv_aload_n hx hb dX9_segment_389 rfl (lv_at hl 1 rfl) ?_
                  refine lv_dup hx hb dX9_segment_390 rfl ?_
                  refine va_get (D := (dC, dI)) (ci := 9) (v := .int dc) (C := RX9) (T := TX9) (N := 17) hx hb hts inc_X9_segment_9 hown hG.1 hP 0 rfl rfl 4 (by decide) (hts (.fieldLink RX9 23 "MappingDeskModel" "draftCount" "I") (by decide +kernel)) (fun _ h9 => h9) rfl dX9_segment_391 ?_
                  refine lv_iconst (v := 1) hx hb dX9_segment_394 (by decide) ?_
                  refine lv_iadd hx hb dX9_segment_395 ?_
                  refine va_put (D := (dC, dI)) (ci := 9) (v := .int (dc + 1)) (ty := .int) (C := RX9) (T := TX9) (N := 17) hx hb hts inc_X9_segment_9 tyX9 tyX9_ok nmX9 hown hG.1 hP hD hS 0 rfl rfl 4 (by decide) (hts (.fieldLink RX9 23 "MappingDeskModel" "draftCount" "I") (by decide +kernel)) (fun _ h9 => h9) rfl (by decide +kernel) rfl rfl (Nat.le_of_ble_eq_true rfl) dX9_segment_396 (fun H locs hP hD hS => ?_)
                  have hP : va_P (dC, dI) vwCl [(h0, .inr (9, [.int th, .ref a0, .ref a1, .ref a2, .int (dc + 1), .ref a3, .int tl, .ref a4, .int xl, .int fo, .int fa, .ref a5, .int mn, .ref a6, .int ft, .ref a7, .int wl])), (a2, .inl (cI, 1800, .inl (upd (upd (upd (upd (upd (upd dr (6 * dc).toNatClampNeg (((lz (0 : Int32).toNatClampNeg) : Int64).toInt32)) ((6 * dc) + 1).toNatClampNeg (((lz (1 : Int32).toNatClampNeg) : Int64).toInt32)) ((6 * dc) + 2).toNatClampNeg (((lz (2 : Int32).toNatClampNeg) : Int64).toInt32)) ((6 * dc) + 3).toNatClampNeg (((lz (3 : Int32).toNatClampNeg) : Int64).toInt32)) ((6 * dc) + 4).toNatClampNeg (((lz (4 : Int32).toNatClampNeg) : Int64).toInt32)) ((6 * dc) + 5).toNatClampNeg (-1)))), (a5, .inl (cJ, 6, .inr (.inl nu))), (a6, .inl (cJ, 6, .inr (.inl lz)))] H := hP
                  have hD : va_D A [(h0, .inr (9, [.int th, .ref a0, .ref a1, .ref a2, .int (dc + 1), .ref a3, .int tl, .ref a4, .int xl, .int fo, .int fa, .ref a5, .int mn, .ref a6, .int ft, .ref a7, .int wl])), (a2, .inl (cI, 1800, .inl (upd (upd (upd (upd (upd (upd dr (6 * dc).toNatClampNeg (((lz (0 : Int32).toNatClampNeg) : Int64).toInt32)) ((6 * dc) + 1).toNatClampNeg (((lz (1 : Int32).toNatClampNeg) : Int64).toInt32)) ((6 * dc) + 2).toNatClampNeg (((lz (2 : Int32).toNatClampNeg) : Int64).toInt32)) ((6 * dc) + 3).toNatClampNeg (((lz (3 : Int32).toNatClampNeg) : Int64).toInt32)) ((6 * dc) + 4).toNatClampNeg (((lz (4 : Int32).toNatClampNeg) : Int64).toInt32)) ((6 * dc) + 5).toNatClampNeg (-1)))), (a5, .inl (cJ, 6, .inr (.inl nu))), (a6, .inl (cJ, 6, .inr (.inl lz)))] := hD
                  refine lv_iconst (v := 1) hx hb dX9_segment_399 (by decide) ?_
                  have e_133 : dc.toInt ≤ ((dc + 1) : Int32).toInt ∧ ((dc + 1) : Int32).toInt ≤ 300 := by
                    have k_134 : (0 : Int32).toInt = 0 := by decide
                    have q_135 := i_ne c_1
                    have k_136 : (300 : Int32).toInt = 300 := by decide
                    have q_137 := i_ne c_2
                    have k_138 : (1 : Int32).toInt = 1 := by decide
                    have q_139 := i_ne c_38
                    have q_140 := i_ne c_62
                    have q_141 := i_ne c_88
                    have k_142 : (5 : Int32).toInt = 5 := by decide
                    have q_143 := i_ne c_116
                    have t_144 := ti_add (a := dc) (b := 1) (by omega) (by omega)
                    try generalize Int32.toInt (dc + 1) = z0 at *
                    try generalize Int32.toInt (300 : Int32) = z1 at *
                    try generalize Int32.toInt dc = z2 at *
                    try generalize Int32.toInt gd = z3 at *
                    try generalize Int32.toInt mn = z4 at *
                    try generalize Int32.toInt (0 : Int32) = z5 at *
                    try generalize Int32.toInt (1 : Int32) = z6 at *
                    try generalize Int32.toInt (5 : Int32) = z7 at *
                    omega
                  subst hR
                  exact W.zret (v := 1) hx hb hr rfl (fun t ht hW => ⟨⟨1, (), rfl, ⟨rfl, e_133⟩, by rw [ht]; exact hP, hD⟩, hS.F ht⟩) hS.2.2 dX9_segment_400
                · rw [if_pos c_116] at hR
                  refine lv_aload_n hx hb dX9_segment_377 rfl (lv_at hl 1 rfl) ?_
                  refine va_get (D := (dC, dI)) (ci := 9) (v := .ref a6) (C := RX9) (T := TX9) (N := 17) hx hb hts inc_X9_segment_9 hown hG.1 hP 0 rfl rfl 13 (by decide) (hts (.fieldLink RX9 52 "MappingDeskModel" "latest" "[J") (by decide +kernel)) (fun _ h9 => h9) rfl dX9_segment_378 ?_
                  refine lv_iconst (v := 5) hx hb dX9_segment_381 (by decide) ?_
                  have b_145 : vp_in 5 6 := by
                    have k_146 : (0 : Int32).toInt = 0 := by decide
                    have q_147 := i_ne c_1
                    have k_148 : (300 : Int32).toInt = 300 := by decide
                    have q_149 := i_ne c_2
                    have k_150 : (1 : Int32).toInt = 1 := by decide
                    have q_151 := i_ne c_38
                    have q_152 := i_ne c_62
                    have q_153 := i_ne c_88
                    have k_154 : (5 : Int32).toInt = 5 := by decide
                    have q_155 := i_eq c_116
                    refine vin ?_ ?_
                    all_goals (try generalize Int32.toInt (300 : Int32) = z0 at *; try generalize Int32.toInt dc = z1 at *; try generalize Int32.toInt gd = z2 at *; try generalize Int32.toInt mn = z3 at *; try generalize Int32.toInt (0 : Int32) = z4 at *; try generalize Int32.toInt (1 : Int32) = z5 at *; try generalize Int32.toInt (5 : Int32) = z6 at *; omega)
                  refine va_lald hx hb hG.1 hP 3 3 rfl rfl b_145 dX9_segment_382 ?_
                  refine lv_l2i hx hb dX9_segment_383 rfl ?_
                  refine lv_goto (tgt := 388) hx hb dX9_segment_384 (by decide) ?_
                  have b_158 : vp_in ((6 * dc) + 5) 1800 := by
                    have k_159 : (0 : Int32).toInt = 0 := by decide
                    have q_160 := i_ne c_1
                    have k_161 : (300 : Int32).toInt = 300 := by decide
                    have q_162 := i_ne c_2
                    have k_163 : (1 : Int32).toInt = 1 := by decide
                    have q_164 := i_ne c_38
                    have q_165 := i_ne c_62
                    have q_166 := i_ne c_88
                    have k_167 : (5 : Int32).toInt = 5 := by decide
                    have q_168 := i_eq c_116
                    have k_169 : (6 : Int32).toInt = 6 := by decide
                    have t_170 : ((6 * dc)).toInt = 6 * (dc).toInt := by
                      have z := ti_mul (a := 6) (b := dc) (by rw [show (6 : Int32).toInt = 6 from by decide]; omega) (by rw [show (6 : Int32).toInt = 6 from by decide]; omega)
                      rw [z, show (6 : Int32).toInt = 6 from by decide]
                    have t_171 := ti_add (a := (6 * dc)) (b := 5) (by omega) (by omega)
                    refine vin ?_ ?_
                    all_goals (try generalize Int32.toInt ((6 * dc) + 5) = z0 at *; try generalize Int32.toInt (6 * dc) = z1 at *; try generalize Int32.toInt (300 : Int32) = z2 at *; try generalize Int32.toInt dc = z3 at *; try generalize Int32.toInt gd = z4 at *; try generalize Int32.toInt mn = z5 at *; try generalize Int32.toInt (0 : Int32) = z6 at *; try generalize Int32.toInt (1 : Int32) = z7 at *; try generalize Int32.toInt (5 : Int32) = z8 at *; try generalize Int32.toInt (6 : Int32) = z9 at *; omega)
                  refine va_iast hx hb hG.1 hP hD hS 1 2 rfl rfl b_158 dX9_segment_388 (fun H locs hP hD hS => ?_)
                  have hP : va_P (dC, dI) vwCl [(h0, .inr (9, [.int th, .ref a0, .ref a1, .ref a2, .int dc, .ref a3, .int tl, .ref a4, .int xl, .int fo, .int fa, .ref a5, .int mn, .ref a6, .int ft, .ref a7, .int wl])), (a2, .inl (cI, 1800, .inl (upd (upd (upd (upd (upd (upd dr (6 * dc).toNatClampNeg (((lz (0 : Int32).toNatClampNeg) : Int64).toInt32)) ((6 * dc) + 1).toNatClampNeg (((lz (1 : Int32).toNatClampNeg) : Int64).toInt32)) ((6 * dc) + 2).toNatClampNeg (((lz (2 : Int32).toNatClampNeg) : Int64).toInt32)) ((6 * dc) + 3).toNatClampNeg (((lz (3 : Int32).toNatClampNeg) : Int64).toInt32)) ((6 * dc) + 4).toNatClampNeg (((lz (4 : Int32).toNatClampNeg) : Int64).toInt32)) ((6 * dc) + 5).toNatClampNeg (((lz (5 : Int32).toNatClampNeg) : Int64).toInt32)))), (a5, .inl (cJ, 6, .inr (.inl nu))), (a6, .inl (cJ, 6, .inr (.inl lz)))] H := hP
                  have hD : va_D A [(h0, .inr (9, [.int th, .ref a0, .ref a1, .ref a2, .int dc, .ref a3, .int tl, .ref a4, .int xl, .int fo, .int fa, .ref a5, .int mn, .ref a6, .int ft, .ref a7, .int wl])), (a2, .inl (cI, 1800, .inl (upd (upd (upd (upd (upd (upd dr (6 * dc).toNatClampNeg (((lz (0 : Int32).toNatClampNeg) : Int64).toInt32)) ((6 * dc) + 1).toNatClampNeg (((lz (1 : Int32).toNatClampNeg) : Int64).toInt32)) ((6 * dc) + 2).toNatClampNeg (((lz (2 : Int32).toNatClampNeg) : Int64).toInt32)) ((6 * dc) + 3).toNatClampNeg (((lz (3 : Int32).toNatClampNeg) : Int64).toInt32)) ((6 * dc) + 4).toNatClampNeg (((lz (4 : Int32).toNatClampNeg) : Int64).toInt32)) ((6 * dc) + 5).toNatClampNeg (((lz (5 : Int32).toNatClampNeg) : Int64).toInt32)))), (a5, .inl (cJ, 6, .inr (.inl nu))), (a6, .inl (cJ, 6, .inr (.inl lz)))] := hD
                  refine lv_aload_n hx hb dX9_segment_389 rfl (lv_at hl 1 rfl) ?_
                  refine lv_dup hx hb dX9_segment_390 rfl ?_
                  refine va_get (D := (dC, dI)) (ci := 9) (v := .int dc) (C := RX9) (T := TX9) (N := 17) hx hb hts inc_X9_segment_9 hown hG.1 hP 0 rfl rfl 4 (by decide) (hts (.fieldLink RX9 23 "MappingDeskModel" "draftCount" "I") (by decide +kernel)) (fun _ h9 => h9) rfl dX9_segment_391 ?_
                  refine lv_iconst (v := 1) hx hb dX9_segment_394 (by decide) ?_
                  refine lv_iadd hx hb dX9_segment_395 ?_
                  refine va_put (D := (dC, dI)) (ci := 9) (v := .int (dc + 1)) (ty := .int) (C := RX9) (T := TX9) (N := 17) hx hb hts inc_X9_segment_9 tyX9 tyX9_ok nmX9 hown hG.1 hP hD hS 0 rfl rfl 4 (by decide) (hts (.fieldLink RX9 23 "MappingDeskModel" "draftCount" "I") (by decide +kernel)) (fun _ h9 => h9) rfl (by decide +kernel) rfl rfl (Nat.le_of_ble_eq_true rfl) dX9_segment_396 (fun H locs hP hD hS => ?_)
                  have hP : va_P (dC, dI) vwCl [(h0, .inr (9, [.int th, .ref a0, .ref a1, .ref a2, .int (dc + 1), .ref a3, .int tl, .ref a4, .int xl, .int fo, .int fa, .ref a5, .int mn, .ref a6, .int ft, .ref a7, .int wl])), (a2, .inl (cI, 1800, .inl (upd (upd (upd (upd (upd (upd dr (6 * dc).toNatClampNeg (((lz (0 : Int32).toNatClampNeg) : Int64).toInt32)) ((6 * dc) + 1).toNatClampNeg (((lz (1 : Int32).toNatClampNeg) : Int64).toInt32)) ((6 * dc) + 2).toNatClampNeg (((lz (2 : Int32).toNatClampNeg) : Int64).toInt32)) ((6 * dc) + 3).toNatClampNeg (((lz (3 : Int32).toNatClampNeg) : Int64).toInt32)) ((6 * dc) + 4).toNatClampNeg (((lz (4 : Int32).toNatClampNeg) : Int64).toInt32)) ((6 * dc) + 5).toNatClampNeg (((lz (5 : Int32).toNatClampNeg) : Int64).toInt32)))), (a5, .inl (cJ, 6, .inr (.inl nu))), (a6, .inl (cJ, 6, .inr (.inl lz)))] H := hP
                  have hD : va_D A [(h0, .inr (9, [.int th, .ref a0, .ref a1, .ref a2, .int (dc + 1), .ref a3, .int tl, .ref a4, .int xl, .int fo, .int fa, .ref a5, .int mn, .ref a6, .int ft, .ref a7, .int wl])), (a2, .inl (cI, 1800, .inl (upd (upd (upd (upd (upd (upd dr (6 * dc).toNatClampNeg (((lz (0 : Int32).toNatClampNeg) : Int64).toInt32)) ((6 * dc) + 1).toNatClampNeg (((lz (1 : Int32).toNatClampNeg) : Int64).toInt32)) ((6 * dc) + 2).toNatClampNeg (((lz (2 : Int32).toNatClampNeg) : Int64).toInt32)) ((6 * dc) + 3).toNatClampNeg (((lz (3 : Int32).toNatClampNeg) : Int64).toInt32)) ((6 * dc) + 4).toNatClampNeg (((lz (4 : Int32).toNatClampNeg) : Int64).toInt32)) ((6 * dc) + 5).toNatClampNeg (((lz (5 : Int32).toNatClampNeg) : Int64).toInt32)))), (a5, .inl (cJ, 6, .inr (.inl nu))), (a6, .inl (cJ, 6, .inr (.inl lz)))] := hD
                  refine lv_iconst (v := 1) hx hb dX9_segment_399 (by decide) ?_
                  have e_174 : dc.toInt ≤ ((dc + 1) : Int32).toInt ∧ ((dc + 1) : Int32).toInt ≤ 300 := by
                    have k_175 : (0 : Int32).toInt = 0 := by decide
                    have q_176 := i_ne c_1
                    have k_177 : (300 : Int32).toInt = 300 := by decide
                    have q_178 := i_ne c_2
                    have k_179 : (1 : Int32).toInt = 1 := by decide
                    have q_180 := i_ne c_38
                    have q_181 := i_ne c_62
                    have q_182 := i_ne c_88
                    have k_183 : (5 : Int32).toInt = 5 := by decide
                    have q_184 := i_eq c_116
                    have t_185 := ti_add (a := dc) (b := 1) (by omega) (by omega)
                    try generalize Int32.toInt (dc + 1) = z0 at *
                    try generalize Int32.toInt (300 : Int32) = z1 at *
                    try generalize Int32.toInt dc = z2 at *
                    try generalize Int32.toInt gd = z3 at *
                    try generalize Int32.toInt mn = z4 at *
                    try generalize Int32.toInt (0 : Int32) = z5 at *
                    try generalize Int32.toInt (1 : Int32) = z6 at *
                    try generalize Int32.toInt (5 : Int32) = z7 at *
                    omega
                  subst hR
                  exact W.zret (v := 1) hx hb hr rfl (fun t ht hW => ⟨⟨1, (), rfl, ⟨rfl, e_174⟩, by rw [ht]; exact hP, hD⟩, hS.F ht⟩) hS.2.2 dX9_segment_400
              · exact absurd c_88 c_62
            · exact absurd c_62 c_38
          · rw [if_pos c_38] at hR
            refine lv_iconst (v := (-1)) hx hb dX9_segment_296 (by decide) ?_
            refine lv_goto (tgt := 307) hx hb dX9_segment_297 (by decide) ?_
            have b_186 : vp_in ((6 * dc) + 2) 1800 := by
              have k_187 : (0 : Int32).toInt = 0 := by decide
              have q_188 := i_ne c_1
              have k_189 : (300 : Int32).toInt = 300 := by decide
              have q_190 := i_ne c_2
              have k_191 : (1 : Int32).toInt = 1 := by decide
              have q_192 := i_eq c_38
              have k_193 : (6 : Int32).toInt = 6 := by decide
              have t_194 : ((6 * dc)).toInt = 6 * (dc).toInt := by
                have z := ti_mul (a := 6) (b := dc) (by rw [show (6 : Int32).toInt = 6 from by decide]; omega) (by rw [show (6 : Int32).toInt = 6 from by decide]; omega)
                rw [z, show (6 : Int32).toInt = 6 from by decide]
              have k_195 : (2 : Int32).toInt = 2 := by decide
              have t_196 := ti_add (a := (6 * dc)) (b := 2) (by omega) (by omega)
              refine vin ?_ ?_
              all_goals (try generalize Int32.toInt ((6 * dc) + 2) = z0 at *; try generalize Int32.toInt (6 * dc) = z1 at *; try generalize Int32.toInt (300 : Int32) = z2 at *; try generalize Int32.toInt dc = z3 at *; try generalize Int32.toInt gd = z4 at *; try generalize Int32.toInt mn = z5 at *; try generalize Int32.toInt (0 : Int32) = z6 at *; try generalize Int32.toInt (1 : Int32) = z7 at *; try generalize Int32.toInt (2 : Int32) = z8 at *; try generalize Int32.toInt (6 : Int32) = z9 at *; omega)
            refine va_iast hx hb hG.1 hP hD hS 1 2 rfl rfl b_186 dX9_segment_307 (fun H locs hP hD hS => ?_)
            have hP : va_P (dC, dI) vwCl [(h0, .inr (9, [.int th, .ref a0, .ref a1, .ref a2, .int dc, .ref a3, .int tl, .ref a4, .int xl, .int fo, .int fa, .ref a5, .int mn, .ref a6, .int ft, .ref a7, .int wl])), (a2, .inl (cI, 1800, .inl (upd (upd (upd dr (6 * dc).toNatClampNeg (((lz (0 : Int32).toNatClampNeg) : Int64).toInt32)) ((6 * dc) + 1).toNatClampNeg (((lz (1 : Int32).toNatClampNeg) : Int64).toInt32)) ((6 * dc) + 2).toNatClampNeg (-1)))), (a5, .inl (cJ, 6, .inr (.inl nu))), (a6, .inl (cJ, 6, .inr (.inl lz)))] H := hP
            have hD : va_D A [(h0, .inr (9, [.int th, .ref a0, .ref a1, .ref a2, .int dc, .ref a3, .int tl, .ref a4, .int xl, .int fo, .int fa, .ref a5, .int mn, .ref a6, .int ft, .ref a7, .int wl])), (a2, .inl (cI, 1800, .inl (upd (upd (upd dr (6 * dc).toNatClampNeg (((lz (0 : Int32).toNatClampNeg) : Int64).toInt32)) ((6 * dc) + 1).toNatClampNeg (((lz (1 : Int32).toNatClampNeg) : Int64).toInt32)) ((6 * dc) + 2).toNatClampNeg (-1)))), (a5, .inl (cJ, 6, .inr (.inl nu))), (a6, .inl (cJ, 6, .inr (.inl lz)))] := hD
            refine lv_aload_n hx hb dX9_segment_308 rfl (lv_at hl 1 rfl) ?_
            refine va_get (D := (dC, dI)) (ci := 9) (v := .ref a2) (C := RX9) (T := TX9) (N := 17) hx hb hts inc_X9_segment_9 hown hG.1 hP 0 rfl rfl 3 (by decide) (hts (.fieldLink RX9 20 "MappingDeskModel" "draft" "[I") (by decide +kernel)) (fun _ h9 => h9) rfl dX9_segment_309 ?_
            refine lv_iload_n hx hb dX9_segment_312 rfl (lv_at hl 0 rfl) ?_
            refine lv_iconst (v := 3) hx hb dX9_segment_313 (by decide) ?_
            refine lv_iadd hx hb dX9_segment_314 ?_
            refine lv_aload_n hx hb dX9_segment_315 rfl (lv_at hl 1 rfl) ?_
            refine va_get (D := (dC, dI)) (ci := 9) (v := .int mn) (C := RX9) (T := TX9) (N := 17) hx hb hts inc_X9_segment_9 hown hG.1 hP 0 rfl rfl 12 (by decide) (hts (.fieldLink RX9 49 "MappingDeskModel" "many" "I") (by decide +kernel)) (fun _ h9 => h9) rfl dX9_segment_316 ?_
            refine lv_iconst (v := 1) hx hb dX9_segment_319 (by decide) ?_
            refine lv_icmp_ne (tgt := 327) hx hb dX9_segment_320 (by decide) (fun c_199 => ?_) (fun c_199 => ?_)
            · exact absurd c_38 c_199
            · refine lv_iconst (v := 0) hx hb dX9_segment_323 (by decide) ?_
              refine lv_goto (tgt := 334) hx hb dX9_segment_324 (by decide) ?_
              have b_200 : vp_in ((6 * dc) + 3) 1800 := by
                have k_201 : (0 : Int32).toInt = 0 := by decide
                have q_202 := i_ne c_1
                have k_203 : (300 : Int32).toInt = 300 := by decide
                have q_204 := i_ne c_2
                have k_205 : (1 : Int32).toInt = 1 := by decide
                have q_206 := i_eq c_38
                have q_207 := i_eq c_199
                have k_208 : (6 : Int32).toInt = 6 := by decide
                have t_209 : ((6 * dc)).toInt = 6 * (dc).toInt := by
                  have z := ti_mul (a := 6) (b := dc) (by rw [show (6 : Int32).toInt = 6 from by decide]; omega) (by rw [show (6 : Int32).toInt = 6 from by decide]; omega)
                  rw [z, show (6 : Int32).toInt = 6 from by decide]
                have k_210 : (3 : Int32).toInt = 3 := by decide
                have t_211 := ti_add (a := (6 * dc)) (b := 3) (by omega) (by omega)
                refine vin ?_ ?_
                all_goals (try generalize Int32.toInt ((6 * dc) + 3) = z0 at *; try generalize Int32.toInt (6 * dc) = z1 at *; try generalize Int32.toInt (300 : Int32) = z2 at *; try generalize Int32.toInt dc = z3 at *; try generalize Int32.toInt gd = z4 at *; try generalize Int32.toInt mn = z5 at *; try generalize Int32.toInt (0 : Int32) = z6 at *; try generalize Int32.toInt (1 : Int32) = z7 at *; try generalize Int32.toInt (3 : Int32) = z8 at *; try generalize Int32.toInt (6 : Int32) = z9 at *; omega)
              refine va_iast hx hb hG.1 hP hD hS 1 2 rfl rfl b_200 dX9_segment_334 (fun H locs hP hD hS => ?_)
              have hP : va_P (dC, dI) vwCl [(h0, .inr (9, [.int th, .ref a0, .ref a1, .ref a2, .int dc, .ref a3, .int tl, .ref a4, .int xl, .int fo, .int fa, .ref a5, .int mn, .ref a6, .int ft, .ref a7, .int wl])), (a2, .inl (cI, 1800, .inl (upd (upd (upd (upd dr (6 * dc).toNatClampNeg (((lz (0 : Int32).toNatClampNeg) : Int64).toInt32)) ((6 * dc) + 1).toNatClampNeg (((lz (1 : Int32).toNatClampNeg) : Int64).toInt32)) ((6 * dc) + 2).toNatClampNeg (-1)) ((6 * dc) + 3).toNatClampNeg 0))), (a5, .inl (cJ, 6, .inr (.inl nu))), (a6, .inl (cJ, 6, .inr (.inl lz)))] H := hP
              have hD : va_D A [(h0, .inr (9, [.int th, .ref a0, .ref a1, .ref a2, .int dc, .ref a3, .int tl, .ref a4, .int xl, .int fo, .int fa, .ref a5, .int mn, .ref a6, .int ft, .ref a7, .int wl])), (a2, .inl (cI, 1800, .inl (upd (upd (upd (upd dr (6 * dc).toNatClampNeg (((lz (0 : Int32).toNatClampNeg) : Int64).toInt32)) ((6 * dc) + 1).toNatClampNeg (((lz (1 : Int32).toNatClampNeg) : Int64).toInt32)) ((6 * dc) + 2).toNatClampNeg (-1)) ((6 * dc) + 3).toNatClampNeg 0))), (a5, .inl (cJ, 6, .inr (.inl nu))), (a6, .inl (cJ, 6, .inr (.inl lz)))] := hD
              refine lv_aload_n hx hb dX9_segment_335 rfl (lv_at hl 1 rfl) ?_
              refine va_get (D := (dC, dI)) (ci := 9) (v := .ref a2) (C := RX9) (T := TX9) (N := 17) hx hb hts inc_X9_segment_9 hown hG.1 hP 0 rfl rfl 3 (by decide) (hts (.fieldLink RX9 20 "MappingDeskModel" "draft" "[I") (by decide +kernel)) (fun _ h9 => h9) rfl dX9_segment_336 ?_
              refine lv_iload_n hx hb dX9_segment_339 rfl (lv_at hl 0 rfl) ?_
              refine lv_iconst (v := 4) hx hb dX9_segment_340 (by decide) ?_
              refine lv_iadd hx hb dX9_segment_341 ?_
              refine lv_aload_n hx hb dX9_segment_342 rfl (lv_at hl 1 rfl) ?_
              refine va_get (D := (dC, dI)) (ci := 9) (v := .int mn) (C := RX9) (T := TX9) (N := 17) hx hb hts inc_X9_segment_9 hown hG.1 hP 0 rfl rfl 12 (by decide) (hts (.fieldLink RX9 49 "MappingDeskModel" "many" "I") (by decide +kernel)) (fun _ h9 => h9) rfl dX9_segment_343 ?_
              refine lv_iconst (v := 1) hx hb dX9_segment_346 (by decide) ?_
              refine lv_icmp_ne (tgt := 354) hx hb dX9_segment_347 (by decide) (fun c_214 => ?_) (fun c_214 => ?_)
              · exact absurd c_199 c_214
              · refine lv_iconst (v := 0) hx hb dX9_segment_350 (by decide) ?_
                refine lv_goto (tgt := 361) hx hb dX9_segment_351 (by decide) ?_
                have b_215 : vp_in ((6 * dc) + 4) 1800 := by
                  have k_216 : (0 : Int32).toInt = 0 := by decide
                  have q_217 := i_ne c_1
                  have k_218 : (300 : Int32).toInt = 300 := by decide
                  have q_219 := i_ne c_2
                  have k_220 : (1 : Int32).toInt = 1 := by decide
                  have q_221 := i_eq c_38
                  have q_222 := i_eq c_199
                  have q_223 := i_eq c_214
                  have k_224 : (6 : Int32).toInt = 6 := by decide
                  have t_225 : ((6 * dc)).toInt = 6 * (dc).toInt := by
                    have z := ti_mul (a := 6) (b := dc) (by rw [show (6 : Int32).toInt = 6 from by decide]; omega) (by rw [show (6 : Int32).toInt = 6 from by decide]; omega)
                    rw [z, show (6 : Int32).toInt = 6 from by decide]
                  have k_226 : (4 : Int32).toInt = 4 := by decide
                  have t_227 := ti_add (a := (6 * dc)) (b := 4) (by omega) (by omega)
                  refine vin ?_ ?_
                  all_goals (try generalize Int32.toInt ((6 * dc) + 4) = z0 at *; try generalize Int32.toInt (6 * dc) = z1 at *; try generalize Int32.toInt (300 : Int32) = z2 at *; try generalize Int32.toInt dc = z3 at *; try generalize Int32.toInt gd = z4 at *; try generalize Int32.toInt mn = z5 at *; try generalize Int32.toInt (0 : Int32) = z6 at *; try generalize Int32.toInt (1 : Int32) = z7 at *; try generalize Int32.toInt (4 : Int32) = z8 at *; try generalize Int32.toInt (6 : Int32) = z9 at *; omega)
                refine va_iast hx hb hG.1 hP hD hS 1 2 rfl rfl b_215 dX9_segment_361 (fun H locs hP hD hS => ?_)
                have hP : va_P (dC, dI) vwCl [(h0, .inr (9, [.int th, .ref a0, .ref a1, .ref a2, .int dc, .ref a3, .int tl, .ref a4, .int xl, .int fo, .int fa, .ref a5, .int mn, .ref a6, .int ft, .ref a7, .int wl])), (a2, .inl (cI, 1800, .inl (upd (upd (upd (upd (upd dr (6 * dc).toNatClampNeg (((lz (0 : Int32).toNatClampNeg) : Int64).toInt32)) ((6 * dc) + 1).toNatClampNeg (((lz (1 : Int32).toNatClampNeg) : Int64).toInt32)) ((6 * dc) + 2).toNatClampNeg (-1)) ((6 * dc) + 3).toNatClampNeg 0) ((6 * dc) + 4).toNatClampNeg 0))), (a5, .inl (cJ, 6, .inr (.inl nu))), (a6, .inl (cJ, 6, .inr (.inl lz)))] H := hP
                have hD : va_D A [(h0, .inr (9, [.int th, .ref a0, .ref a1, .ref a2, .int dc, .ref a3, .int tl, .ref a4, .int xl, .int fo, .int fa, .ref a5, .int mn, .ref a6, .int ft, .ref a7, .int wl])), (a2, .inl (cI, 1800, .inl (upd (upd (upd (upd (upd dr (6 * dc).toNatClampNeg (((lz (0 : Int32).toNatClampNeg) : Int64).toInt32)) ((6 * dc) + 1).toNatClampNeg (((lz (1 : Int32).toNatClampNeg) : Int64).toInt32)) ((6 * dc) + 2).toNatClampNeg (-1)) ((6 * dc) + 3).toNatClampNeg 0) ((6 * dc) + 4).toNatClampNeg 0))), (a5, .inl (cJ, 6, .inr (.inl nu))), (a6, .inl (cJ, 6, .inr (.inl lz)))] := hD
                refine lv_aload_n hx hb dX9_segment_362 rfl (lv_at hl 1 rfl) ?_
                refine va_get (D := (dC, dI)) (ci := 9) (v := .ref a2) (C := RX9) (T := TX9) (N := 17) hx hb hts inc_X9_segment_9 hown hG.1 hP 0 rfl rfl 3 (by decide) (hts (.fieldLink RX9 20 "MappingDeskModel" "draft" "[I") (by decide +kernel)) (fun _ h9 => h9) rfl dX9_segment_363 ?_
                refine lv_iload_n hx hb dX9_segment_366 rfl (lv_at hl 0 rfl) ?_
                refine lv_iconst (v := 5) hx hb dX9_segment_367 (by decide) ?_
                refine lv_iadd hx hb dX9_segment_368 ?_
                refine lv_aload_n hx hb dX9_segment_369 rfl (lv_at hl 1 rfl) ?_
                refine va_get (D := (dC, dI)) (ci := 9) (v := .int mn) (C := RX9) (T := TX9) (N := 17) hx hb hts inc_X9_segment_9 hown hG.1 hP 0 rfl rfl 12 (by decide) (hts (.fieldLink RX9 49 "MappingDeskModel" "many" "I") (by decide +kernel)) (fun _ h9 => h9) rfl dX9_segment_370 ?_
                refine lv_iconst (v := 5) hx hb dX9_segment_373 (by decide) ?_
                refine lv_icmp_ne (tgt := 387) hx hb dX9_segment_374 (by decide) (fun c_230 => ?_) (fun c_230 => ?_)
                · rw [if_neg c_230] at hR
                  refine lv_iconst (v := (-1)) hx hb dX9_segment_387 (by decide) ?_
                  have b_231 : vp_in ((6 * dc) + 5) 1800 := by
                    have k_232 : (0 : Int32).toInt = 0 := by decide
                    have q_233 := i_ne c_1
                    have k_234 : (300 : Int32).toInt = 300 := by decide
                    have q_235 := i_ne c_2
                    have k_236 : (1 : Int32).toInt = 1 := by decide
                    have q_237 := i_eq c_38
                    have q_238 := i_eq c_199
                    have q_239 := i_eq c_214
                    have k_240 : (5 : Int32).toInt = 5 := by decide
                    have q_241 := i_ne c_230
                    have k_242 : (6 : Int32).toInt = 6 := by decide
                    have t_243 : ((6 * dc)).toInt = 6 * (dc).toInt := by
                      have z := ti_mul (a := 6) (b := dc) (by rw [show (6 : Int32).toInt = 6 from by decide]; omega) (by rw [show (6 : Int32).toInt = 6 from by decide]; omega)
                      rw [z, show (6 : Int32).toInt = 6 from by decide]
                    have t_244 := ti_add (a := (6 * dc)) (b := 5) (by omega) (by omega)
                    refine vin ?_ ?_
                    all_goals (try generalize Int32.toInt ((6 * dc) + 5) = z0 at *; try generalize Int32.toInt (6 * dc) = z1 at *; try generalize Int32.toInt (300 : Int32) = z2 at *; try generalize Int32.toInt dc = z3 at *; try generalize Int32.toInt gd = z4 at *; try generalize Int32.toInt mn = z5 at *; try generalize Int32.toInt (0 : Int32) = z6 at *; try generalize Int32.toInt (1 : Int32) = z7 at *; try generalize Int32.toInt (5 : Int32) = z8 at *; try generalize Int32.toInt (6 : Int32) = z9 at *; omega)
                  refine va_iast hx hb hG.1 hP hD hS 1 2 rfl rfl b_231 dX9_segment_388 (fun H locs hP hD hS => ?_)
                  have hP : va_P (dC, dI) vwCl [(h0, .inr (9, [.int th, .ref a0, .ref a1, .ref a2, .int dc, .ref a3, .int tl, .ref a4, .int xl, .int fo, .int fa, .ref a5, .int mn, .ref a6, .int ft, .ref a7, .int wl])), (a2, .inl (cI, 1800, .inl (upd (upd (upd (upd (upd (upd dr (6 * dc).toNatClampNeg (((lz (0 : Int32).toNatClampNeg) : Int64).toInt32)) ((6 * dc) + 1).toNatClampNeg (((lz (1 : Int32).toNatClampNeg) : Int64).toInt32)) ((6 * dc) + 2).toNatClampNeg (-1)) ((6 * dc) + 3).toNatClampNeg 0) ((6 * dc) + 4).toNatClampNeg 0) ((6 * dc) + 5).toNatClampNeg (-1)))), (a5, .inl (cJ, 6, .inr (.inl nu))), (a6, .inl (cJ, 6, .inr (.inl lz)))] H := hP
                  have hD : va_D A [(h0, .inr (9, [.int th, .ref a0, .ref a1, .ref a2, .int dc, .ref a3, .int tl, .ref a4, .int xl, .int fo, .int fa, .ref a5, .int mn, .ref a6, .int ft, .ref a7, .int wl])), (a2, .inl (cI, 1800, .inl (upd (upd (upd (upd (upd (upd dr (6 * dc).toNatClampNeg (((lz (0 : Int32).toNatClampNeg) : Int64).toInt32)) ((6 * dc) + 1).toNatClampNeg (((lz (1 : Int32).toNatClampNeg) : Int64).toInt32)) ((6 * dc) + 2).toNatClampNeg (-1)) ((6 * dc) + 3).toNatClampNeg 0) ((6 * dc) + 4).toNatClampNeg 0) ((6 * dc) + 5).toNatClampNeg (-1)))), (a5, .inl (cJ, 6, .inr (.inl nu))), (a6, .inl (cJ, 6, .inr (.inl lz)))] := hD
                  refine lv_aload_n hx hb dX9_segment_389 rfl (lv_at hl 1 rfl) ?_
                  refine lv_dup hx hb dX9_segment_390 rfl ?_
                  refine va_get (D := (dC, dI)) (ci := 9) (v := .int dc) (C := RX9) (T := TX9) (N := 17) hx hb hts inc_X9_segment_9 hown hG.1 hP 0 rfl rfl 4 (by decide) (hts (.fieldLink RX9 23 "MappingDeskModel" "draftCount" "I") (by decide +kernel)) (fun _ h9 => h9) rfl dX9_segment_391 ?_
                  refine lv_iconst (v := 1) hx hb dX9_segment_394 (by decide) ?_
                  refine lv_iadd hx hb dX9_segment_395 ?_
                  refine va_put (D := (dC, dI)) (ci := 9) (v := .int (dc + 1)) (ty := .int) (C := RX9) (T := TX9) (N := 17) hx hb hts inc_X9_segment_9 tyX9 tyX9_ok nmX9 hown hG.1 hP hD hS 0 rfl rfl 4 (by decide) (hts (.fieldLink RX9 23 "MappingDeskModel" "draftCount" "I") (by decide +kernel)) (fun _ h9 => h9) rfl (by decide +kernel) rfl rfl (Nat.le_of_ble_eq_true rfl) dX9_segment_396 (fun H locs hP hD hS => ?_)
                  have hP : va_P (dC, dI) vwCl [(h0, .inr (9, [.int th, .ref a0, .ref a1, .ref a2, .int (dc + 1), .ref a3, .int tl, .ref a4, .int xl, .int fo, .int fa, .ref a5, .int mn, .ref a6, .int ft, .ref a7, .int wl])), (a2, .inl (cI, 1800, .inl (upd (upd (upd (upd (upd (upd dr (6 * dc).toNatClampNeg (((lz (0 : Int32).toNatClampNeg) : Int64).toInt32)) ((6 * dc) + 1).toNatClampNeg (((lz (1 : Int32).toNatClampNeg) : Int64).toInt32)) ((6 * dc) + 2).toNatClampNeg (-1)) ((6 * dc) + 3).toNatClampNeg 0) ((6 * dc) + 4).toNatClampNeg 0) ((6 * dc) + 5).toNatClampNeg (-1)))), (a5, .inl (cJ, 6, .inr (.inl nu))), (a6, .inl (cJ, 6, .inr (.inl lz)))] H := hP
                  have hD : va_D A [(h0, .inr (9, [.int th, .ref a0, .ref a1, .ref a2, .int (dc + 1), .ref a3, .int tl, .ref a4, .int xl, .int fo, .int fa, .ref a5, .int mn, .ref a6, .int ft, .ref a7, .int wl])), (a2, .inl (cI, 1800, .inl (upd (upd (upd (upd (upd (upd dr (6 * dc).toNatClampNeg (((lz (0 : Int32).toNatClampNeg) : Int64).toInt32)) ((6 * dc) + 1).toNatClampNeg (((lz (1 : Int32).toNatClampNeg) : Int64).toInt32)) ((6 * dc) + 2).toNatClampNeg (-1)) ((6 * dc) + 3).toNatClampNeg 0) ((6 * dc) + 4).toNatClampNeg 0) ((6 * dc) + 5).toNatClampNeg (-1)))), (a5, .inl (cJ, 6, .inr (.inl nu))), (a6, .inl (cJ, 6, .inr (.inl lz)))] := hD
                  refine lv_iconst (v := 1) hx hb dX9_segment_399 (by decide) ?_
                  have e_247 : dc.toInt ≤ ((dc + 1) : Int32).toInt ∧ ((dc + 1) : Int32).toInt ≤ 300 := by
                    have k_248 : (0 : Int32).toInt = 0 := by decide
                    have q_249 := i_ne c_1
                    have k_250 : (300 : Int32).toInt = 300 := by decide
                    have q_251 := i_ne c_2
                    have k_252 : (1 : Int32).toInt = 1 := by decide
                    have q_253 := i_eq c_38
                    have q_254 := i_eq c_199
                    have q_255 := i_eq c_214
                    have k_256 : (5 : Int32).toInt = 5 := by decide
                    have q_257 := i_ne c_230
                    have t_258 := ti_add (a := dc) (b := 1) (by omega) (by omega)
                    try generalize Int32.toInt (dc + 1) = z0 at *
                    try generalize Int32.toInt (300 : Int32) = z1 at *
                    try generalize Int32.toInt dc = z2 at *
                    try generalize Int32.toInt gd = z3 at *
                    try generalize Int32.toInt mn = z4 at *
                    try generalize Int32.toInt (0 : Int32) = z5 at *
                    try generalize Int32.toInt (1 : Int32) = z6 at *
                    try generalize Int32.toInt (5 : Int32) = z7 at *
                    omega
                  subst hR
                  exact W.zret (v := 1) hx hb hr rfl (fun t ht hW => ⟨⟨1, (), rfl, ⟨rfl, e_247⟩, by rw [ht]; exact hP, hD⟩, hS.F ht⟩) hS.2.2 dX9_segment_400
                · rw [if_pos c_230] at hR
                  refine lv_aload_n hx hb dX9_segment_377 rfl (lv_at hl 1 rfl) ?_
                  refine va_get (D := (dC, dI)) (ci := 9) (v := .ref a6) (C := RX9) (T := TX9) (N := 17) hx hb hts inc_X9_segment_9 hown hG.1 hP 0 rfl rfl 13 (by decide) (hts (.fieldLink RX9 52 "MappingDeskModel" "latest" "[J") (by decide +kernel)) (fun _ h9 => h9) rfl dX9_segment_378 ?_
                  refine lv_iconst (v := 5) hx hb dX9_segment_381 (by decide) ?_
                  have b_259 : vp_in 5 6 := by
                    have k_260 : (0 : Int32).toInt = 0 := by decide
                    have q_261 := i_ne c_1
                    have k_262 : (300 : Int32).toInt = 300 := by decide
                    have q_263 := i_ne c_2
                    have k_264 : (1 : Int32).toInt = 1 := by decide
                    have q_265 := i_eq c_38
                    have q_266 := i_eq c_199
                    have q_267 := i_eq c_214
                    have k_268 : (5 : Int32).toInt = 5 := by decide
                    have q_269 := i_eq c_230
                    refine vin ?_ ?_
                    all_goals (try generalize Int32.toInt (300 : Int32) = z0 at *; try generalize Int32.toInt dc = z1 at *; try generalize Int32.toInt gd = z2 at *; try generalize Int32.toInt mn = z3 at *; try generalize Int32.toInt (0 : Int32) = z4 at *; try generalize Int32.toInt (1 : Int32) = z5 at *; try generalize Int32.toInt (5 : Int32) = z6 at *; omega)
                  refine va_lald hx hb hG.1 hP 3 3 rfl rfl b_259 dX9_segment_382 ?_
                  refine lv_l2i hx hb dX9_segment_383 rfl ?_
                  refine lv_goto (tgt := 388) hx hb dX9_segment_384 (by decide) ?_
                  have b_272 : vp_in ((6 * dc) + 5) 1800 := by
                    have k_273 : (0 : Int32).toInt = 0 := by decide
                    have q_274 := i_ne c_1
                    have k_275 : (300 : Int32).toInt = 300 := by decide
                    have q_276 := i_ne c_2
                    have k_277 : (1 : Int32).toInt = 1 := by decide
                    have q_278 := i_eq c_38
                    have q_279 := i_eq c_199
                    have q_280 := i_eq c_214
                    have k_281 : (5 : Int32).toInt = 5 := by decide
                    have q_282 := i_eq c_230
                    have k_283 : (6 : Int32).toInt = 6 := by decide
                    have t_284 : ((6 * dc)).toInt = 6 * (dc).toInt := by
                      have z := ti_mul (a := 6) (b := dc) (by rw [show (6 : Int32).toInt = 6 from by decide]; omega) (by rw [show (6 : Int32).toInt = 6 from by decide]; omega)
                      rw [z, show (6 : Int32).toInt = 6 from by decide]
                    have t_285 := ti_add (a := (6 * dc)) (b := 5) (by omega) (by omega)
                    refine vin ?_ ?_
                    all_goals (try generalize Int32.toInt ((6 * dc) + 5) = z0 at *; try generalize Int32.toInt (6 * dc) = z1 at *; try generalize Int32.toInt (300 : Int32) = z2 at *; try generalize Int32.toInt dc = z3 at *; try generalize Int32.toInt gd = z4 at *; try generalize Int32.toInt mn = z5 at *; try generalize Int32.toInt (0 : Int32) = z6 at *; try generalize Int32.toInt (1 : Int32) = z7 at *; try generalize Int32.toInt (5 : Int32) = z8 at *; try generalize Int32.toInt (6 : Int32) = z9 at *; omega)
                  refine va_iast hx hb hG.1 hP hD hS 1 2 rfl rfl b_272 dX9_segment_388 (fun H locs hP hD hS => ?_)
                  have hP : va_P (dC, dI) vwCl [(h0, .inr (9, [.int th, .ref a0, .ref a1, .ref a2, .int dc, .ref a3, .int tl, .ref a4, .int xl, .int fo, .int fa, .ref a5, .int mn, .ref a6, .int ft, .ref a7, .int wl])), (a2, .inl (cI, 1800, .inl (upd (upd (upd (upd (upd (upd dr (6 * dc).toNatClampNeg (((lz (0 : Int32).toNatClampNeg) : Int64).toInt32)) ((6 * dc) + 1).toNatClampNeg (((lz (1 : Int32).toNatClampNeg) : Int64).toInt32)) ((6 * dc) + 2).toNatClampNeg (-1)) ((6 * dc) + 3).toNatClampNeg 0) ((6 * dc) + 4).toNatClampNeg 0) ((6 * dc) + 5).toNatClampNeg (((lz (5 : Int32).toNatClampNeg) : Int64).toInt32)))), (a5, .inl (cJ, 6, .inr (.inl nu))), (a6, .inl (cJ, 6, .inr (.inl lz)))] H := hP
                  have hD : va_D A [(h0, .inr (9, [.int th, .ref a0, .ref a1, .ref a2, .int dc, .ref a3, .int tl, .ref a4, .int xl, .int fo, .int fa, .ref a5, .int mn, .ref a6, .int ft, .ref a7, .int wl])), (a2, .inl (cI, 1800, .inl (upd (upd (upd (upd (upd (upd dr (6 * dc).toNatClampNeg (((lz (0 : Int32).toNatClampNeg) : Int64).toInt32)) ((6 * dc) + 1).toNatClampNeg (((lz (1 : Int32).toNatClampNeg) : Int64).toInt32)) ((6 * dc) + 2).toNatClampNeg (-1)) ((6 * dc) + 3).toNatClampNeg 0) ((6 * dc) + 4).toNatClampNeg 0) ((6 * dc) + 5).toNatClampNeg (((lz (5 : Int32).toNatClampNeg) : Int64).toInt32)))), (a5, .inl (cJ, 6, .inr (.inl nu))), (a6, .inl (cJ, 6, .inr (.inl lz)))] := hD
                  refine lv_aload_n hx hb dX9_segment_389 rfl (lv_at hl 1 rfl) ?_
                  refine lv_dup hx hb dX9_segment_390 rfl ?_
                  refine va_get (D := (dC, dI)) (ci := 9) (v := .int dc) (C := RX9) (T := TX9) (N := 17) hx hb hts inc_X9_segment_9 hown hG.1 hP 0 rfl rfl 4 (by decide) (hts (.fieldLink RX9 23 "MappingDeskModel" "draftCount" "I") (by decide +kernel)) (fun _ h9 => h9) rfl dX9_segment_391 ?_
                  refine lv_iconst (v := 1) hx hb dX9_segment_394 (by decide) ?_
                  refine lv_iadd hx hb dX9_segment_395 ?_
                  refine va_put (D := (dC, dI)) (ci := 9) (v := .int (dc + 1)) (ty := .int) (C := RX9) (T := TX9) (N := 17) hx hb hts inc_X9_segment_9 tyX9 tyX9_ok nmX9 hown hG.1 hP hD hS 0 rfl rfl 4 (by decide) (hts (.fieldLink RX9 23 "MappingDeskModel" "draftCount" "I") (by decide +kernel)) (fun _ h9 => h9) rfl (by decide +kernel) rfl rfl (Nat.le_of_ble_eq_true rfl) dX9_segment_396 (fun H locs hP hD hS => ?_)
                  have hP : va_P (dC, dI) vwCl [(h0, .inr (9, [.int th, .ref a0, .ref a1, .ref a2, .int (dc + 1), .ref a3, .int tl, .ref a4, .int xl, .int fo, .int fa, .ref a5, .int mn, .ref a6, .int ft, .ref a7, .int wl])), (a2, .inl (cI, 1800, .inl (upd (upd (upd (upd (upd (upd dr (6 * dc).toNatClampNeg (((lz (0 : Int32).toNatClampNeg) : Int64).toInt32)) ((6 * dc) + 1).toNatClampNeg (((lz (1 : Int32).toNatClampNeg) : Int64).toInt32)) ((6 * dc) + 2).toNatClampNeg (-1)) ((6 * dc) + 3).toNatClampNeg 0) ((6 * dc) + 4).toNatClampNeg 0) ((6 * dc) + 5).toNatClampNeg (((lz (5 : Int32).toNatClampNeg) : Int64).toInt32)))), (a5, .inl (cJ, 6, .inr (.inl nu))), (a6, .inl (cJ, 6, .inr (.inl lz)))] H := hP
                  have hD : va_D A [(h0, .inr (9, [.int th, .ref a0, .ref a1, .ref a2, .int (dc + 1), .ref a3, .int tl, .ref a4, .int xl, .int fo, .int fa, .ref a5, .int mn, .ref a6, .int ft, .ref a7, .int wl])), (a2, .inl (cI, 1800, .inl (upd (upd (upd (upd (upd (upd dr (6 * dc).toNatClampNeg (((lz (0 : Int32).toNatClampNeg) : Int64).toInt32)) ((6 * dc) + 1).toNatClampNeg (((lz (1 : Int32).toNatClampNeg) : Int64).toInt32)) ((6 * dc) + 2).toNatClampNeg (-1)) ((6 * dc) + 3).toNatClampNeg 0) ((6 * dc) + 4).toNatClampNeg 0) ((6 * dc) + 5).toNatClampNeg (((lz (5 : Int32).toNatClampNeg) : Int64).toInt32)))), (a5, .inl (cJ, 6, .inr (.inl nu))), (a6, .inl (cJ, 6, .inr (.inl lz)))] := hD
                  refine lv_iconst (v := 1) hx hb dX9_segment_399 (by decide) ?_
                  have e_288 : dc.toInt ≤ ((dc + 1) : Int32).toInt ∧ ((dc + 1) : Int32).toInt ≤ 300 := by
                    have k_289 : (0 : Int32).toInt = 0 := by decide
                    have q_290 := i_ne c_1
                    have k_291 : (300 : Int32).toInt = 300 := by decide
                    have q_292 := i_ne c_2
                    have k_293 : (1 : Int32).toInt = 1 := by decide
                    have q_294 := i_eq c_38
                    have q_295 := i_eq c_199
                    have q_296 := i_eq c_214
                    have k_297 : (5 : Int32).toInt = 5 := by decide
                    have q_298 := i_eq c_230
                    have t_299 := ti_add (a := dc) (b := 1) (by omega) (by omega)
                    try generalize Int32.toInt (dc + 1) = z0 at *
                    try generalize Int32.toInt (300 : Int32) = z1 at *
                    try generalize Int32.toInt dc = z2 at *
                    try generalize Int32.toInt gd = z3 at *
                    try generalize Int32.toInt mn = z4 at *
                    try generalize Int32.toInt (0 : Int32) = z5 at *
                    try generalize Int32.toInt (1 : Int32) = z6 at *
                    try generalize Int32.toInt (5 : Int32) = z7 at *
                    omega
                  subst hR
                  exact W.zret (v := 1) hx hb hr rfl (fun t ht hW => ⟨⟨1, (), rfl, ⟨rfl, e_288⟩, by rw [ht]; exact hP, hD⟩, hS.F ht⟩) hS.2.2 dX9_segment_400
        · rw [if_pos c_2] at hR
          refine lv_aload_n hx hb dX9_segment_238 rfl (lv_at hl 0 rfl) ?_
          refine lv_iconst (v := 5) hx hb dX9_segment_239 (by decide) ?_
          refine lv_iload_n hx hb dX9_segment_240 rfl (lv_at hl 1 rfl) ?_
          have hPc := hP.sub (ws' := [(h0, .inr (9, [.int th, .ref a0, .ref a1, .ref a2, .int dc, .ref a3, .int tl, .ref a4, .int xl, .int fo, .int fa, .ref a5, .int mn, .ref a6, .int ft, .ref a7, .int wl]))]) [0] rfl
          have hDc := hD.sub (ws' := [(h0, .inr (9, [.int th, .ref a0, .ref a1, .ref a2, .int dc, .ref a3, .int tl, .ref a4, .int xl, .int fo, .int fa, .ref a5, .int mn, .ref a6, .int ft, .ref a7, .int wl]))]) [0] (by decide) rfl
          have hFc := va_free (wc := [(h0, .inr (9, [.int th, .ref a0, .ref a1, .ref a2, .int dc, .ref a3, .int tl, .ref a4, .int xl, .int fo, .int fa, .ref a5, .int mn, .ref a6, .int ft, .ref a7, .int wl]))]) hD hS hA [0] rfl
          refine va_calli (va_runV (As := [.int 5, .int x]) (rest := []) ⟨hx, hb, hml, hown, hts⟩ (c_X9_fails l dC dI cB cC cI cJ H.size h0 a0 a1 a2 a3 a4 a5 a6 a7 th dc tl xl fo fa mn ft wl 5 x ) (cwV 2 hts gX9_segment_X9_fails rfl rfl rfl (by decide +kernel) ⟨(Nat.le_of_ble_eq_true rfl), (Nat.le_of_ble_eq_true rfl)⟩) ⟨cP_blind, va_recv hG.1 hPc (ci := 9) (q0 := 0) rfl rfl, cP_pre hPc hG hDc⟩ rfl rfl hl.1 rfl (lv_room (Nat.le_of_ble_eq_true rfl)) dX9_segment_241 ⟨Nat.le_of_ble_eq_true rfl, Nat.le_of_ble_eq_true rfl⟩) hS (fun q _ h => hFc q h) hFc (fun r_300v u t H1 locs ht hvm hw hB hz1 hk1 hS => ?_)
          obtain ⟨hP1, hD1⟩ := hB
          rw [ht] at hP1
          generalize hr_300 : fX9_fails th dc tl xl fo fa mn ft wl 5 x = r_300 at hP1 hD1 hw
          obtain ⟨hw, er_300_0⟩ := hw
          rw [bnd_eq hr_300] at hR
          subst hw
          obtain ⟨hP, hD⟩ := va_join (wr := [(a2, .inl (cI, 1800, .inl dr)), (a5, .inl (cJ, 6, .inr (.inl nu))), (a6, .inl (cJ, 6, .inr (.inl lz)))]) (w1 := [(h0, .inr (9, [.int th, .ref a0, .ref a1, .ref a2, .int dc, .ref a3, .int tl, .ref a4, .int xl, .int r_300.2.1, .int r_300.2.2, .ref a5, .int mn, .ref a6, .int ft, .ref a7, .int wl]))]) hP hD [0] [1, 2, 3] rfl rfl (by decide) (by decide) hk1 hFc hP1 hD1
          generalize H1 = H at hP hS ⊢
          have hP := hP.sub (ws' := [(h0, .inr (9, [.int th, .ref a0, .ref a1, .ref a2, .int dc, .ref a3, .int tl, .ref a4, .int xl, .int r_300.2.1, .int r_300.2.2, .ref a5, .int mn, .ref a6, .int ft, .ref a7, .int wl])), (a2, .inl (cI, 1800, .inl dr)), (a5, .inl (cJ, 6, .inr (.inl nu))), (a6, .inl (cJ, 6, .inr (.inl lz)))]) [3, 0, 1, 2] rfl
          have hD := hD.sub (ws' := [(h0, .inr (9, [.int th, .ref a0, .ref a1, .ref a2, .int dc, .ref a3, .int tl, .ref a4, .int xl, .int r_300.2.1, .int r_300.2.2, .ref a5, .int mn, .ref a6, .int ft, .ref a7, .int wl])), (a2, .inl (cI, 1800, .inl dr)), (a5, .inl (cJ, 6, .inr (.inl nu))), (a6, .inl (cJ, 6, .inr (.inl lz)))]) [3, 0, 1, 2] (by decide) rfl
          have e_301 : dc.toInt ≤ (dc : Int32).toInt ∧ (dc : Int32).toInt ≤ 300 := by
            have k_302 : (0 : Int32).toInt = 0 := by decide
            have q_303 := i_ne c_1
            have k_304 : (300 : Int32).toInt = 300 := by decide
            have q_305 := i_eq c_2
            try generalize Int32.toInt (300 : Int32) = z0 at *
            try generalize Int32.toInt dc = z1 at *
            try generalize Int32.toInt gd = z2 at *
            try generalize Int32.toInt (0 : Int32) = z3 at *
            omega
          subst hR
          exact W.zret (v := r_300.1) hx hb hr (narz (by assumption)) (fun t ht hW => ⟨⟨r_300.1, (), rfl, ⟨rfl, e_301⟩, by rw [ht]; exact hP, hD⟩, hS.F ht⟩) hS.2.2 dX9_segment_244
      · rw [if_pos c_1] at hR
        refine lv_aload_n hx hb dX9_segment_221 rfl (lv_at hl 0 rfl) ?_
        refine lv_iconst (v := 4) hx hb dX9_segment_222 (by decide) ?_
        refine lv_iload_n hx hb dX9_segment_223 rfl (lv_at hl 1 rfl) ?_
        have hPc := hP.sub (ws' := [(h0, .inr (9, [.int th, .ref a0, .ref a1, .ref a2, .int dc, .ref a3, .int tl, .ref a4, .int xl, .int fo, .int fa, .ref a5, .int mn, .ref a6, .int ft, .ref a7, .int wl]))]) [0] rfl
        have hDc := hD.sub (ws' := [(h0, .inr (9, [.int th, .ref a0, .ref a1, .ref a2, .int dc, .ref a3, .int tl, .ref a4, .int xl, .int fo, .int fa, .ref a5, .int mn, .ref a6, .int ft, .ref a7, .int wl]))]) [0] (by decide) rfl
        have hFc := va_free (wc := [(h0, .inr (9, [.int th, .ref a0, .ref a1, .ref a2, .int dc, .ref a3, .int tl, .ref a4, .int xl, .int fo, .int fa, .ref a5, .int mn, .ref a6, .int ft, .ref a7, .int wl]))]) hD hS hA [0] rfl
        refine va_calli (va_runV (As := [.int 4, .int x]) (rest := []) ⟨hx, hb, hml, hown, hts⟩ (c_X9_fails l dC dI cB cC cI cJ H.size h0 a0 a1 a2 a3 a4 a5 a6 a7 th dc tl xl fo fa mn ft wl 4 x ) (cwV 2 hts gX9_segment_X9_fails rfl rfl rfl (by decide +kernel) ⟨(Nat.le_of_ble_eq_true rfl), (Nat.le_of_ble_eq_true rfl)⟩) ⟨cP_blind, va_recv hG.1 hPc (ci := 9) (q0 := 0) rfl rfl, cP_pre hPc hG hDc⟩ rfl rfl hl.1 rfl (lv_room (Nat.le_of_ble_eq_true rfl)) dX9_segment_224 ⟨Nat.le_of_ble_eq_true rfl, Nat.le_of_ble_eq_true rfl⟩) hS (fun q _ h => hFc q h) hFc (fun r_306v u t H1 locs ht hvm hw hB hz1 hk1 hS => ?_)
        obtain ⟨hP1, hD1⟩ := hB
        rw [ht] at hP1
        generalize hr_306 : fX9_fails th dc tl xl fo fa mn ft wl 4 x = r_306 at hP1 hD1 hw
        obtain ⟨hw, er_306_0⟩ := hw
        rw [bnd_eq hr_306] at hR
        subst hw
        obtain ⟨hP, hD⟩ := va_join (wr := [(a2, .inl (cI, 1800, .inl dr)), (a5, .inl (cJ, 6, .inr (.inl nu))), (a6, .inl (cJ, 6, .inr (.inl lz)))]) (w1 := [(h0, .inr (9, [.int th, .ref a0, .ref a1, .ref a2, .int dc, .ref a3, .int tl, .ref a4, .int xl, .int r_306.2.1, .int r_306.2.2, .ref a5, .int mn, .ref a6, .int ft, .ref a7, .int wl]))]) hP hD [0] [1, 2, 3] rfl rfl (by decide) (by decide) hk1 hFc hP1 hD1
        generalize H1 = H at hP hS ⊢
        have hP := hP.sub (ws' := [(h0, .inr (9, [.int th, .ref a0, .ref a1, .ref a2, .int dc, .ref a3, .int tl, .ref a4, .int xl, .int r_306.2.1, .int r_306.2.2, .ref a5, .int mn, .ref a6, .int ft, .ref a7, .int wl])), (a2, .inl (cI, 1800, .inl dr)), (a5, .inl (cJ, 6, .inr (.inl nu))), (a6, .inl (cJ, 6, .inr (.inl lz)))]) [3, 0, 1, 2] rfl
        have hD := hD.sub (ws' := [(h0, .inr (9, [.int th, .ref a0, .ref a1, .ref a2, .int dc, .ref a3, .int tl, .ref a4, .int xl, .int r_306.2.1, .int r_306.2.2, .ref a5, .int mn, .ref a6, .int ft, .ref a7, .int wl])), (a2, .inl (cI, 1800, .inl dr)), (a5, .inl (cJ, 6, .inr (.inl nu))), (a6, .inl (cJ, 6, .inr (.inl lz)))]) [3, 0, 1, 2] (by decide) rfl
        have e_307 : dc.toInt ≤ (dc : Int32).toInt ∧ (dc : Int32).toInt ≤ 300 := by
          have k_308 : (0 : Int32).toInt = 0 := by decide
          have q_309 := i_eq c_1
          try generalize Int32.toInt dc = z0 at *
          try generalize Int32.toInt gd = z1 at *
          try generalize Int32.toInt (0 : Int32) = z2 at *
          omega
        subst hR
        exact W.zret (v := r_306.1) hx hb hr (narz (by assumption)) (fun t ht hW => ⟨⟨r_306.1, (), rfl, ⟨rfl, e_307⟩, by rw [ht]; exact hP, hD⟩, hS.F ht⟩) hS.2.2 dX9_segment_227
  have loop_98 : ∀ (n : Nat), ∀ (k : Int32) (gd : Int32) (lz : Nat → Int64) (H : Heap) (locs : List Loc) (ls : Array Slot), fX9_segment_98 th dc tl xl fo fa mn ft wl dr nu la x n k gd lz = R → (1 ≤ k.toInt) → (k.toInt ≤ mn.toInt) → (mn.toInt ≤ 5) → (6 - k.toInt < ((n : Nat) : Int)) → va_P (dC, dI) vwCl [(h0, .inr (9, [.int th, .ref a0, .ref a1, .ref a2, .int dc, .ref a3, .int tl, .ref a4, .int xl, .int fo, .int fa, .ref a5, .int mn, .ref a6, .int ft, .ref a7, .int wl])), (a2, .inl (cI, 1800, .inl dr)), (a5, .inl (cJ, 6, .inr (.inl nu))), (a6, .inl (cJ, 6, .inr (.inl lz)))] H → va_D A [(h0, .inr (9, [.int th, .ref a0, .ref a1, .ref a2, .int dc, .ref a3, .int tl, .ref a4, .int xl, .int fo, .int fa, .ref a5, .int mn, .ref a6, .int ft, .ref a7, .int wl])), (a2, .inl (cI, 1800, .inl dr)), (a5, .inl (cJ, 6, .inr (.inl nu))), (a6, .inl (cJ, 6, .inr (.inl lz)))] → va_S A s.heap H locs → lv_has ls 4 [(0, .ref h0), (1, .int x), (2, .int gd), (3, .int k)] → W p l e (headSpec wsX9_segment ({ frames := 1, cells := 0, slots := 0, locals := 23 } : Room)).room s m ([.ref h0, .int x] : List Value).toArray below meth c H locs 0 0 (MQ below (va_Qi (fun r _ => r = R.1 ∧ (dc.toInt ≤ R.2.1.toInt ∧ R.2.1.toInt ≤ 300)) (cE dC dI (A) [(h0, .inr (9, [.int th, .ref a0, .ref a1, .ref a2, .int R.2.1, .ref a3, .int tl, .ref a4, .int xl, .int R.2.2.1, .int R.2.2.2.1, .ref a5, .int mn, .ref a6, .int ft, .ref a7, .int wl])), (a2, .inl (cI, 1800, .inl R.2.2.2.2.1)), (a5, .inl (cJ, 6, .inr (.inl nu))), (a6, .inl (cJ, 6, .inr (.inl R.2.2.2.2.2)))]) (A)) ([.ref h0, .int x] : List Value).toArray s 0 0 A) (F0 m 98 ls []) := by
    intro n
    induction n with
    | zero => intro k gd lz H locs ls hR hk0 hk1 hm hmu; exfalso; omega
    | succ n ih =>
      intro k gd lz H locs ls hR hk0 hk1 hm hmu hP hD hS hl
      rw [fX9_segment_98] at hR
      refine lv_iload_n hx hb dX9_segment_98 rfl (lv_at hl 3 rfl) ?_
      refine lv_aload_n hx hb dX9_segment_99 rfl (lv_at hl 0 rfl) ?_
      refine va_get (D := (dC, dI)) (ci := 9) (v := .int mn) (C := RX9) (T := TX9) (N := 17) hx hb hts inc_X9_segment_9 hown hG.1 hP 0 rfl rfl 12 (by decide) (hts (.fieldLink RX9 49 "MappingDeskModel" "many" "I") (by decide +kernel)) (fun _ h9 => h9) rfl dX9_segment_100 ?_
      refine lv_icmp_ge (tgt := 129) hx hb dX9_segment_103 (by decide) (fun c_310 => ?_) (fun c_310 => ?_)
      · rw [if_pos c_310] at hR
        refine lv_iload_n hx hb dX9_segment_129 rfl (lv_at hl 2 rfl) ?_
        refine lv_if_eq (tgt := 182) hx hb dX9_segment_130 (by decide) (fun c_311 => ?_) (fun c_311 => ?_)
        · rw [if_pos c_311] at hR
          refine lv_iconst (v := 0) hx hb dX9_segment_182 (by decide) ?_
          refine lv_istore_n (lv' := [(2, .int 0), (0, .ref h0), (1, .int x), (3, .int k)]) hx hb dX9_segment_183 rfl hl (by decide) rfl (fun ls hl => ?_)
          refine lv_aload_n hx hb dX9_segment_184 rfl (lv_at hl 1 rfl) ?_
          refine va_get (D := (dC, dI)) (ci := 9) (v := .int mn) (C := RX9) (T := TX9) (N := 17) hx hb hts inc_X9_segment_9 hown hG.1 hP 0 rfl rfl 12 (by decide) (hts (.fieldLink RX9 49 "MappingDeskModel" "many" "I") (by decide +kernel)) (fun _ h9 => h9) rfl dX9_segment_185 ?_
          refine lv_iconst (v := 5) hx hb dX9_segment_188 (by decide) ?_
          refine lv_icmp_ne (tgt := 217) hx hb dX9_segment_189 (by decide) (fun c_312 => ?_) (fun c_312 => ?_)
          · rw [if_neg c_312] at hR
            have v_318 : 0 < ((1 : Nat) : Int) := by
              have q_319 := i_le c_310
              have k_320 : (0 : Int32).toInt = 0 := by decide
              have q_321 := i_eq c_311
              have k_322 : (5 : Int32).toInt = 5 := by decide
              have q_323 := i_ne c_312
              try generalize Int32.toInt dc = z0 at *
              try generalize Int32.toInt gd = z1 at *
              try generalize Int32.toInt mn = z2 at *
              try generalize Int32.toInt (0 : Int32) = z3 at *
              try generalize Int32.toInt (5 : Int32) = z4 at *
              try generalize Int32.toInt k = z5 at *
              omega
            exact loop_217 1 (0) (lz) _ _ ls hR  v_318 hP hD hS (lv_sub hl [1, 2, 0] rfl)
          · rw [if_pos c_312] at hR
            refine lv_iload_n hx hb dX9_segment_192 rfl (lv_at hl 0 rfl) ?_
            refine lv_if_eq (tgt := 215) hx hb dX9_segment_193 (by decide) (fun c_324 => ?_) (fun c_324 => ?_)
            · refine lv_iconst (v := 0) hx hb dX9_segment_215 (by decide) ?_
              refine lv_istore_n (lv' := [(2, .int 0), (0, .ref h0), (1, .int x), (3, .int k)]) hx hb dX9_segment_216 rfl hl (by decide) rfl (fun ls hl => ?_)
              have v_331 : 0 < ((1 : Nat) : Int) := by
                have q_332 := i_le c_310
                have k_333 : (0 : Int32).toInt = 0 := by decide
                have q_334 := i_eq c_311
                have k_335 : (5 : Int32).toInt = 5 := by decide
                have q_336 := i_eq c_312
                have q_337 := i_eq c_324
                try generalize Int32.toInt dc = z0 at *
                try generalize Int32.toInt gd = z1 at *
                try generalize Int32.toInt mn = z2 at *
                try generalize Int32.toInt (0 : Int32) = z3 at *
                try generalize Int32.toInt (5 : Int32) = z4 at *
                try generalize Int32.toInt k = z5 at *
                omega
              exact loop_217 1 (0) (lz) _ _ ls hR  v_331 hP hD hS (lv_sub hl [1, 2, 0] rfl)
            · exact absurd (by decide) c_324
        · rw [if_neg c_311] at hR
          refine lv_aload_n hx hb dX9_segment_133 rfl (lv_at hl 0 rfl) ?_
          refine va_get (D := (dC, dI)) (ci := 9) (v := .ref a6) (C := RX9) (T := TX9) (N := 17) hx hb hts inc_X9_segment_9 hown hG.1 hP 0 rfl rfl 13 (by decide) (hts (.fieldLink RX9 52 "MappingDeskModel" "latest" "[J") (by decide +kernel)) (fun _ h9 => h9) rfl dX9_segment_134 ?_
          refine lv_iconst (v := 2) hx hb dX9_segment_137 (by decide) ?_
          have b_338 : vp_in 2 6 := by
            have q_339 := i_le c_310
            have k_340 : (0 : Int32).toInt = 0 := by decide
            have q_341 := i_ne c_311
            have k_342 : (2 : Int32).toInt = 2 := by decide
            refine vin ?_ ?_
            all_goals (try generalize Int32.toInt dc = z0 at *; try generalize Int32.toInt gd = z1 at *; try generalize Int32.toInt mn = z2 at *; try generalize Int32.toInt (0 : Int32) = z3 at *; try generalize Int32.toInt (2 : Int32) = z4 at *; try generalize Int32.toInt k = z5 at *; omega)
          refine va_lald hx hb hG.1 hP 3 3 rfl rfl b_338 dX9_segment_138 ?_
          refine lv_ldc2 (v := 99) hx hb hown (hts (.constantLong RX9 81 99) (by decide +kernel)) dX9_segment_139 ?_
          have hPc := hP.sub (ws' := []) [] rfl
          have hDc := hD.sub (ws' := []) [] (by decide) rfl
          refine vp_callSi (va_Run.run (va_runS (As := [.long (lz (2 : Int32).toNatClampNeg), .long 99]) (rest := []) ⟨hx, hb, hml, hown, hts⟩ (c_X9_within l dC dI cB cC cI cJ H.size (lz (2 : Int32).toNatClampNeg) 99 ) (va_cwS 2 hts gX9_segment_X9_within rfl rfl rfl (by decide +kernel) ⟨(Nat.le_of_ble_eq_true rfl), (Nat.le_of_ble_eq_true rfl)⟩) ⟨cP_blind, cP_pre hPc hG hDc⟩ rfl rfl hl.1 rfl (lv_room (Nat.le_of_ble_eq_true rfl)) dX9_segment_142 ⟨Nat.le_of_ble_eq_true rfl, Nat.le_of_ble_eq_true rfl⟩)) (fun r_345 hr_345 => ?_)
          rw [bnd_eq hr_345.symm] at hR
          refine lv_if_eq (tgt := 182) hx hb dX9_segment_145 (by decide) (fun c_346 => ?_) (fun c_346 => ?_)
          · rw [if_pos c_346] at hR
            refine lv_iconst (v := 0) hx hb dX9_segment_182 (by decide) ?_
            refine lv_istore_n (lv' := [(2, .int 0), (0, .ref h0), (1, .int x), (3, .int k)]) hx hb dX9_segment_183 rfl hl (by decide) rfl (fun ls hl => ?_)
            refine lv_aload_n hx hb dX9_segment_184 rfl (lv_at hl 1 rfl) ?_
            refine va_get (D := (dC, dI)) (ci := 9) (v := .int mn) (C := RX9) (T := TX9) (N := 17) hx hb hts inc_X9_segment_9 hown hG.1 hP 0 rfl rfl 12 (by decide) (hts (.fieldLink RX9 49 "MappingDeskModel" "many" "I") (by decide +kernel)) (fun _ h9 => h9) rfl dX9_segment_185 ?_
            refine lv_iconst (v := 5) hx hb dX9_segment_188 (by decide) ?_
            refine lv_icmp_ne (tgt := 217) hx hb dX9_segment_189 (by decide) (fun c_347 => ?_) (fun c_347 => ?_)
            · rw [if_neg c_347] at hR
              have v_354 : 0 < ((1 : Nat) : Int) := by
                have q_355 := i_le c_310
                have k_356 : (0 : Int32).toInt = 0 := by decide
                have q_357 := i_ne c_311
                have q_358 := i_eq c_346
                have k_359 : (5 : Int32).toInt = 5 := by decide
                have q_360 := i_ne c_347
                try generalize Int32.toInt r_345 = z0 at *
                try generalize Int32.toInt dc = z1 at *
                try generalize Int32.toInt gd = z2 at *
                try generalize Int32.toInt mn = z3 at *
                try generalize Int32.toInt (0 : Int32) = z4 at *
                try generalize Int32.toInt (5 : Int32) = z5 at *
                try generalize Int32.toInt k = z6 at *
                omega
              exact loop_217 1 (0) (lz) _ _ ls hR  v_354 hP hD hS (lv_sub hl [1, 2, 0] rfl)
            · rw [if_pos c_347] at hR
              refine lv_iload_n hx hb dX9_segment_192 rfl (lv_at hl 0 rfl) ?_
              refine lv_if_eq (tgt := 215) hx hb dX9_segment_193 (by decide) (fun c_361 => ?_) (fun c_361 => ?_)
              · refine lv_iconst (v := 0) hx hb dX9_segment_215 (by decide) ?_
                refine lv_istore_n (lv' := [(2, .int 0), (0, .ref h0), (1, .int x), (3, .int k)]) hx hb dX9_segment_216 rfl hl (by decide) rfl (fun ls hl => ?_)
                have v_369 : 0 < ((1 : Nat) : Int) := by
                  have q_370 := i_le c_310
                  have k_371 : (0 : Int32).toInt = 0 := by decide
                  have q_372 := i_ne c_311
                  have q_373 := i_eq c_346
                  have k_374 : (5 : Int32).toInt = 5 := by decide
                  have q_375 := i_eq c_347
                  have q_376 := i_eq c_361
                  try generalize Int32.toInt r_345 = z0 at *
                  try generalize Int32.toInt dc = z1 at *
                  try generalize Int32.toInt gd = z2 at *
                  try generalize Int32.toInt mn = z3 at *
                  try generalize Int32.toInt (0 : Int32) = z4 at *
                  try generalize Int32.toInt (5 : Int32) = z5 at *
                  try generalize Int32.toInt k = z6 at *
                  omega
                exact loop_217 1 (0) (lz) _ _ ls hR  v_369 hP hD hS (lv_sub hl [1, 2, 0] rfl)
              · exact absurd (by decide) c_361
          · rw [if_neg c_346] at hR
            refine lv_aload_n hx hb dX9_segment_148 rfl (lv_at hl 0 rfl) ?_
            refine va_get (D := (dC, dI)) (ci := 9) (v := .ref a6) (C := RX9) (T := TX9) (N := 17) hx hb hts inc_X9_segment_9 hown hG.1 hP 0 rfl rfl 13 (by decide) (hts (.fieldLink RX9 52 "MappingDeskModel" "latest" "[J") (by decide +kernel)) (fun _ h9 => h9) rfl dX9_segment_149 ?_
            refine lv_iconst (v := 3) hx hb dX9_segment_152 (by decide) ?_
            have b_377 : vp_in 3 6 := by
              have q_378 := i_le c_310
              have k_379 : (0 : Int32).toInt = 0 := by decide
              have q_380 := i_ne c_311
              have q_381 := i_ne c_346
              have k_382 : (3 : Int32).toInt = 3 := by decide
              refine vin ?_ ?_
              all_goals (try generalize Int32.toInt r_345 = z0 at *; try generalize Int32.toInt dc = z1 at *; try generalize Int32.toInt gd = z2 at *; try generalize Int32.toInt mn = z3 at *; try generalize Int32.toInt (0 : Int32) = z4 at *; try generalize Int32.toInt (3 : Int32) = z5 at *; try generalize Int32.toInt k = z6 at *; omega)
            refine va_lald hx hb hG.1 hP 3 3 rfl rfl b_377 dX9_segment_153 ?_
            refine lv_ldc2 (v := 999999) hx hb hown (hts (.constantLong RX9 75 999999) (by decide +kernel)) dX9_segment_154 ?_
            have hPc := hP.sub (ws' := []) [] rfl
            have hDc := hD.sub (ws' := []) [] (by decide) rfl
            refine vp_callSi (va_Run.run (va_runS (As := [.long (lz (3 : Int32).toNatClampNeg), .long 999999]) (rest := []) ⟨hx, hb, hml, hown, hts⟩ (c_X9_within l dC dI cB cC cI cJ H.size (lz (3 : Int32).toNatClampNeg) 999999 ) (va_cwS 2 hts gX9_segment_X9_within rfl rfl rfl (by decide +kernel) ⟨(Nat.le_of_ble_eq_true rfl), (Nat.le_of_ble_eq_true rfl)⟩) ⟨cP_blind, cP_pre hPc hG hDc⟩ rfl rfl hl.1 rfl (lv_room (Nat.le_of_ble_eq_true rfl)) dX9_segment_157 ⟨Nat.le_of_ble_eq_true rfl, Nat.le_of_ble_eq_true rfl⟩)) (fun r_385 hr_385 => ?_)
            rw [bnd_eq hr_385.symm] at hR
            refine lv_if_eq (tgt := 182) hx hb dX9_segment_160 (by decide) (fun c_386 => ?_) (fun c_386 => ?_)
            · rw [if_pos c_386] at hR
              refine lv_iconst (v := 0) hx hb dX9_segment_182 (by decide) ?_
              refine lv_istore_n (lv' := [(2, .int 0), (0, .ref h0), (1, .int x), (3, .int k)]) hx hb dX9_segment_183 rfl hl (by decide) rfl (fun ls hl => ?_)
              refine lv_aload_n hx hb dX9_segment_184 rfl (lv_at hl 1 rfl) ?_
              refine va_get (D := (dC, dI)) (ci := 9) (v := .int mn) (C := RX9) (T := TX9) (N := 17) hx hb hts inc_X9_segment_9 hown hG.1 hP 0 rfl rfl 12 (by decide) (hts (.fieldLink RX9 49 "MappingDeskModel" "many" "I") (by decide +kernel)) (fun _ h9 => h9) rfl dX9_segment_185 ?_
              refine lv_iconst (v := 5) hx hb dX9_segment_188 (by decide) ?_
              refine lv_icmp_ne (tgt := 217) hx hb dX9_segment_189 (by decide) (fun c_387 => ?_) (fun c_387 => ?_)
              · rw [if_neg c_387] at hR
                have v_395 : 0 < ((1 : Nat) : Int) := by
                  have q_396 := i_le c_310
                  have k_397 : (0 : Int32).toInt = 0 := by decide
                  have q_398 := i_ne c_311
                  have q_399 := i_ne c_346
                  have q_400 := i_eq c_386
                  have k_401 : (5 : Int32).toInt = 5 := by decide
                  have q_402 := i_ne c_387
                  try generalize Int32.toInt r_345 = z0 at *
                  try generalize Int32.toInt r_385 = z1 at *
                  try generalize Int32.toInt dc = z2 at *
                  try generalize Int32.toInt gd = z3 at *
                  try generalize Int32.toInt mn = z4 at *
                  try generalize Int32.toInt (0 : Int32) = z5 at *
                  try generalize Int32.toInt (5 : Int32) = z6 at *
                  try generalize Int32.toInt k = z7 at *
                  omega
                exact loop_217 1 (0) (lz) _ _ ls hR  v_395 hP hD hS (lv_sub hl [1, 2, 0] rfl)
              · rw [if_pos c_387] at hR
                refine lv_iload_n hx hb dX9_segment_192 rfl (lv_at hl 0 rfl) ?_
                refine lv_if_eq (tgt := 215) hx hb dX9_segment_193 (by decide) (fun c_403 => ?_) (fun c_403 => ?_)
                · refine lv_iconst (v := 0) hx hb dX9_segment_215 (by decide) ?_
                  refine lv_istore_n (lv' := [(2, .int 0), (0, .ref h0), (1, .int x), (3, .int k)]) hx hb dX9_segment_216 rfl hl (by decide) rfl (fun ls hl => ?_)
                  have v_412 : 0 < ((1 : Nat) : Int) := by
                    have q_413 := i_le c_310
                    have k_414 : (0 : Int32).toInt = 0 := by decide
                    have q_415 := i_ne c_311
                    have q_416 := i_ne c_346
                    have q_417 := i_eq c_386
                    have k_418 : (5 : Int32).toInt = 5 := by decide
                    have q_419 := i_eq c_387
                    have q_420 := i_eq c_403
                    try generalize Int32.toInt r_345 = z0 at *
                    try generalize Int32.toInt r_385 = z1 at *
                    try generalize Int32.toInt dc = z2 at *
                    try generalize Int32.toInt gd = z3 at *
                    try generalize Int32.toInt mn = z4 at *
                    try generalize Int32.toInt (0 : Int32) = z5 at *
                    try generalize Int32.toInt (5 : Int32) = z6 at *
                    try generalize Int32.toInt k = z7 at *
                    omega
                  exact loop_217 1 (0) (lz) _ _ ls hR  v_412 hP hD hS (lv_sub hl [1, 2, 0] rfl)
                · exact absurd (by decide) c_403
            · rw [if_neg c_386] at hR
              refine lv_aload_n hx hb dX9_segment_163 rfl (lv_at hl 0 rfl) ?_
              refine va_get (D := (dC, dI)) (ci := 9) (v := .ref a6) (C := RX9) (T := TX9) (N := 17) hx hb hts inc_X9_segment_9 hown hG.1 hP 0 rfl rfl 13 (by decide) (hts (.fieldLink RX9 52 "MappingDeskModel" "latest" "[J") (by decide +kernel)) (fun _ h9 => h9) rfl dX9_segment_164 ?_
              refine lv_iconst (v := 4) hx hb dX9_segment_167 (by decide) ?_
              have b_421 : vp_in 4 6 := by
                have q_422 := i_le c_310
                have k_423 : (0 : Int32).toInt = 0 := by decide
                have q_424 := i_ne c_311
                have q_425 := i_ne c_346
                have q_426 := i_ne c_386
                have k_427 : (4 : Int32).toInt = 4 := by decide
                refine vin ?_ ?_
                all_goals (try generalize Int32.toInt r_345 = z0 at *; try generalize Int32.toInt r_385 = z1 at *; try generalize Int32.toInt dc = z2 at *; try generalize Int32.toInt gd = z3 at *; try generalize Int32.toInt mn = z4 at *; try generalize Int32.toInt (0 : Int32) = z5 at *; try generalize Int32.toInt (4 : Int32) = z6 at *; try generalize Int32.toInt k = z7 at *; omega)
              refine va_lald hx hb hG.1 hP 3 3 rfl rfl b_421 dX9_segment_168 ?_
              refine lv_ldc2 (v := 999999) hx hb hown (hts (.constantLong RX9 75 999999) (by decide +kernel)) dX9_segment_169 ?_
              have hPc := hP.sub (ws' := []) [] rfl
              have hDc := hD.sub (ws' := []) [] (by decide) rfl
              refine vp_callSi (va_Run.run (va_runS (As := [.long (lz (4 : Int32).toNatClampNeg), .long 999999]) (rest := []) ⟨hx, hb, hml, hown, hts⟩ (c_X9_within l dC dI cB cC cI cJ H.size (lz (4 : Int32).toNatClampNeg) 999999 ) (va_cwS 2 hts gX9_segment_X9_within rfl rfl rfl (by decide +kernel) ⟨(Nat.le_of_ble_eq_true rfl), (Nat.le_of_ble_eq_true rfl)⟩) ⟨cP_blind, cP_pre hPc hG hDc⟩ rfl rfl hl.1 rfl (lv_room (Nat.le_of_ble_eq_true rfl)) dX9_segment_172 ⟨Nat.le_of_ble_eq_true rfl, Nat.le_of_ble_eq_true rfl⟩)) (fun r_430 hr_430 => ?_)
              rw [bnd_eq hr_430.symm] at hR
              refine lv_if_eq (tgt := 182) hx hb dX9_segment_175 (by decide) (fun c_431 => ?_) (fun c_431 => ?_)
              · rw [if_pos c_431] at hR
                refine lv_iconst (v := 0) hx hb dX9_segment_182 (by decide) ?_
                refine lv_istore_n (lv' := [(2, .int 0), (0, .ref h0), (1, .int x), (3, .int k)]) hx hb dX9_segment_183 rfl hl (by decide) rfl (fun ls hl => ?_)
                refine lv_aload_n hx hb dX9_segment_184 rfl (lv_at hl 1 rfl) ?_
                refine va_get (D := (dC, dI)) (ci := 9) (v := .int mn) (C := RX9) (T := TX9) (N := 17) hx hb hts inc_X9_segment_9 hown hG.1 hP 0 rfl rfl 12 (by decide) (hts (.fieldLink RX9 49 "MappingDeskModel" "many" "I") (by decide +kernel)) (fun _ h9 => h9) rfl dX9_segment_185 ?_
                refine lv_iconst (v := 5) hx hb dX9_segment_188 (by decide) ?_
                refine lv_icmp_ne (tgt := 217) hx hb dX9_segment_189 (by decide) (fun c_432 => ?_) (fun c_432 => ?_)
                · rw [if_neg c_432] at hR
                  have v_441 : 0 < ((1 : Nat) : Int) := by
                    have q_442 := i_le c_310
                    have k_443 : (0 : Int32).toInt = 0 := by decide
                    have q_444 := i_ne c_311
                    have q_445 := i_ne c_346
                    have q_446 := i_ne c_386
                    have q_447 := i_eq c_431
                    have k_448 : (5 : Int32).toInt = 5 := by decide
                    have q_449 := i_ne c_432
                    try generalize Int32.toInt r_345 = z0 at *
                    try generalize Int32.toInt r_385 = z1 at *
                    try generalize Int32.toInt r_430 = z2 at *
                    try generalize Int32.toInt dc = z3 at *
                    try generalize Int32.toInt gd = z4 at *
                    try generalize Int32.toInt mn = z5 at *
                    try generalize Int32.toInt (0 : Int32) = z6 at *
                    try generalize Int32.toInt (5 : Int32) = z7 at *
                    try generalize Int32.toInt k = z8 at *
                    omega
                  exact loop_217 1 (0) (lz) _ _ ls hR  v_441 hP hD hS (lv_sub hl [1, 2, 0] rfl)
                · rw [if_pos c_432] at hR
                  refine lv_iload_n hx hb dX9_segment_192 rfl (lv_at hl 0 rfl) ?_
                  refine lv_if_eq (tgt := 215) hx hb dX9_segment_193 (by decide) (fun c_450 => ?_) (fun c_450 => ?_)
                  · refine lv_iconst (v := 0) hx hb dX9_segment_215 (by decide) ?_
                    refine lv_istore_n (lv' := [(2, .int 0), (0, .ref h0), (1, .int x), (3, .int k)]) hx hb dX9_segment_216 rfl hl (by decide) rfl (fun ls hl => ?_)
                    have v_460 : 0 < ((1 : Nat) : Int) := by
                      have q_461 := i_le c_310
                      have k_462 : (0 : Int32).toInt = 0 := by decide
                      have q_463 := i_ne c_311
                      have q_464 := i_ne c_346
                      have q_465 := i_ne c_386
                      have q_466 := i_eq c_431
                      have k_467 : (5 : Int32).toInt = 5 := by decide
                      have q_468 := i_eq c_432
                      have q_469 := i_eq c_450
                      try generalize Int32.toInt r_345 = z0 at *
                      try generalize Int32.toInt r_385 = z1 at *
                      try generalize Int32.toInt r_430 = z2 at *
                      try generalize Int32.toInt dc = z3 at *
                      try generalize Int32.toInt gd = z4 at *
                      try generalize Int32.toInt mn = z5 at *
                      try generalize Int32.toInt (0 : Int32) = z6 at *
                      try generalize Int32.toInt (5 : Int32) = z7 at *
                      try generalize Int32.toInt k = z8 at *
                      omega
                    exact loop_217 1 (0) (lz) _ _ ls hR  v_460 hP hD hS (lv_sub hl [1, 2, 0] rfl)
                  · exact absurd (by decide) c_450
              · rw [if_neg c_431] at hR
                refine lv_iconst (v := 1) hx hb dX9_segment_178 (by decide) ?_
                refine lv_goto (tgt := 183) hx hb dX9_segment_179 (by decide) ?_
                refine lv_istore_n (lv' := [(2, .int 1), (0, .ref h0), (1, .int x), (3, .int k)]) hx hb dX9_segment_183 rfl hl (by decide) rfl (fun ls hl => ?_)
                refine lv_aload_n hx hb dX9_segment_184 rfl (lv_at hl 1 rfl) ?_
                refine va_get (D := (dC, dI)) (ci := 9) (v := .int mn) (C := RX9) (T := TX9) (N := 17) hx hb hts inc_X9_segment_9 hown hG.1 hP 0 rfl rfl 12 (by decide) (hts (.fieldLink RX9 49 "MappingDeskModel" "many" "I") (by decide +kernel)) (fun _ h9 => h9) rfl dX9_segment_185 ?_
                refine lv_iconst (v := 5) hx hb dX9_segment_188 (by decide) ?_
                refine lv_icmp_ne (tgt := 217) hx hb dX9_segment_189 (by decide) (fun c_470 => ?_) (fun c_470 => ?_)
                · rw [if_neg c_470] at hR
                  have v_479 : 0 < ((1 : Nat) : Int) := by
                    have q_480 := i_le c_310
                    have k_481 : (0 : Int32).toInt = 0 := by decide
                    have q_482 := i_ne c_311
                    have q_483 := i_ne c_346
                    have q_484 := i_ne c_386
                    have q_485 := i_ne c_431
                    have k_486 : (5 : Int32).toInt = 5 := by decide
                    have q_487 := i_ne c_470
                    try generalize Int32.toInt r_345 = z0 at *
                    try generalize Int32.toInt r_385 = z1 at *
                    try generalize Int32.toInt r_430 = z2 at *
                    try generalize Int32.toInt dc = z3 at *
                    try generalize Int32.toInt gd = z4 at *
                    try generalize Int32.toInt mn = z5 at *
                    try generalize Int32.toInt (0 : Int32) = z6 at *
                    try generalize Int32.toInt (5 : Int32) = z7 at *
                    try generalize Int32.toInt k = z8 at *
                    omega
                  exact loop_217 1 (1) (lz) _ _ ls hR  v_479 hP hD hS (lv_sub hl [1, 2, 0] rfl)
                · rw [if_pos c_470] at hR
                  refine lv_iload_n hx hb dX9_segment_192 rfl (lv_at hl 0 rfl) ?_
                  refine lv_if_eq (tgt := 215) hx hb dX9_segment_193 (by decide) (fun c_488 => ?_) (fun c_488 => ?_)
                  · exact absurd c_488 (by decide)
                  · refine lv_aload_n hx hb dX9_segment_196 rfl (lv_at hl 1 rfl) ?_
                    refine va_get (D := (dC, dI)) (ci := 9) (v := .ref a6) (C := RX9) (T := TX9) (N := 17) hx hb hts inc_X9_segment_9 hown hG.1 hP 0 rfl rfl 13 (by decide) (hts (.fieldLink RX9 52 "MappingDeskModel" "latest" "[J") (by decide +kernel)) (fun _ h9 => h9) rfl dX9_segment_197 ?_
                    refine lv_iconst (v := 5) hx hb dX9_segment_200 (by decide) ?_
                    have b_489 : vp_in 5 6 := by
                      have q_490 := i_le c_310
                      have k_491 : (0 : Int32).toInt = 0 := by decide
                      have q_492 := i_ne c_311
                      have q_493 := i_ne c_346
                      have q_494 := i_ne c_386
                      have q_495 := i_ne c_431
                      have k_496 : (5 : Int32).toInt = 5 := by decide
                      have q_497 := i_eq c_470
                      have k_498 : (1 : Int32).toInt = 1 := by decide
                      have q_499 := i_ne c_488
                      refine vin ?_ ?_
                      all_goals (try generalize Int32.toInt r_345 = z0 at *; try generalize Int32.toInt r_385 = z1 at *; try generalize Int32.toInt r_430 = z2 at *; try generalize Int32.toInt dc = z3 at *; try generalize Int32.toInt gd = z4 at *; try generalize Int32.toInt mn = z5 at *; try generalize Int32.toInt (0 : Int32) = z6 at *; try generalize Int32.toInt (1 : Int32) = z7 at *; try generalize Int32.toInt (5 : Int32) = z8 at *; try generalize Int32.toInt k = z9 at *; omega)
                    refine va_lald hx hb hG.1 hP 3 3 rfl rfl b_489 dX9_segment_201 ?_
                    refine lv_ldc2 (v := 99) hx hb hown (hts (.constantLong RX9 81 99) (by decide +kernel)) dX9_segment_202 ?_
                    have hPc := hP.sub (ws' := []) [] rfl
                    have hDc := hD.sub (ws' := []) [] (by decide) rfl
                    refine vp_callSi (va_Run.run (va_runS (As := [.long (lz (5 : Int32).toNatClampNeg), .long 99]) (rest := []) ⟨hx, hb, hml, hown, hts⟩ (c_X9_within l dC dI cB cC cI cJ H.size (lz (5 : Int32).toNatClampNeg) 99 ) (va_cwS 2 hts gX9_segment_X9_within rfl rfl rfl (by decide +kernel) ⟨(Nat.le_of_ble_eq_true rfl), (Nat.le_of_ble_eq_true rfl)⟩) ⟨cP_blind, cP_pre hPc hG hDc⟩ rfl rfl hl.1 rfl (lv_room (Nat.le_of_ble_eq_true rfl)) dX9_segment_205 ⟨Nat.le_of_ble_eq_true rfl, Nat.le_of_ble_eq_true rfl⟩)) (fun r_502 hr_502 => ?_)
                    rw [bnd_eq hr_502.symm] at hR
                    refine lv_if_eq (tgt := 215) hx hb dX9_segment_208 (by decide) (fun c_503 => ?_) (fun c_503 => ?_)
                    · rw [if_pos c_503] at hR
                      refine lv_iconst (v := 0) hx hb dX9_segment_215 (by decide) ?_
                      refine lv_istore_n (lv' := [(2, .int 0), (0, .ref h0), (1, .int x), (3, .int k)]) hx hb dX9_segment_216 rfl hl (by decide) rfl (fun ls hl => ?_)
                      have v_515 : 0 < ((1 : Nat) : Int) := by
                        have q_516 := i_le c_310
                        have k_517 : (0 : Int32).toInt = 0 := by decide
                        have q_518 := i_ne c_311
                        have q_519 := i_ne c_346
                        have q_520 := i_ne c_386
                        have q_521 := i_ne c_431
                        have k_522 : (5 : Int32).toInt = 5 := by decide
                        have q_523 := i_eq c_470
                        have k_524 : (1 : Int32).toInt = 1 := by decide
                        have q_525 := i_ne c_488
                        have q_526 := i_eq c_503
                        try generalize Int32.toInt r_345 = z0 at *
                        try generalize Int32.toInt r_385 = z1 at *
                        try generalize Int32.toInt r_430 = z2 at *
                        try generalize Int32.toInt r_502 = z3 at *
                        try generalize Int32.toInt dc = z4 at *
                        try generalize Int32.toInt gd = z5 at *
                        try generalize Int32.toInt mn = z6 at *
                        try generalize Int32.toInt (0 : Int32) = z7 at *
                        try generalize Int32.toInt (1 : Int32) = z8 at *
                        try generalize Int32.toInt (5 : Int32) = z9 at *
                        try generalize Int32.toInt k = z10 at *
                        omega
                      exact loop_217 1 (0) (lz) _ _ ls hR  v_515 hP hD hS (lv_sub hl [1, 2, 0] rfl)
                    · rw [if_neg c_503] at hR
                      refine lv_iconst (v := 1) hx hb dX9_segment_211 (by decide) ?_
                      refine lv_goto (tgt := 216) hx hb dX9_segment_212 (by decide) ?_
                      refine lv_istore_n (lv' := [(2, .int 1), (0, .ref h0), (1, .int x), (3, .int k)]) hx hb dX9_segment_216 rfl hl (by decide) rfl (fun ls hl => ?_)
                      have v_538 : 0 < ((1 : Nat) : Int) := by
                        have q_539 := i_le c_310
                        have k_540 : (0 : Int32).toInt = 0 := by decide
                        have q_541 := i_ne c_311
                        have q_542 := i_ne c_346
                        have q_543 := i_ne c_386
                        have q_544 := i_ne c_431
                        have k_545 : (5 : Int32).toInt = 5 := by decide
                        have q_546 := i_eq c_470
                        have k_547 : (1 : Int32).toInt = 1 := by decide
                        have q_548 := i_ne c_488
                        have q_549 := i_ne c_503
                        try generalize Int32.toInt r_345 = z0 at *
                        try generalize Int32.toInt r_385 = z1 at *
                        try generalize Int32.toInt r_430 = z2 at *
                        try generalize Int32.toInt r_502 = z3 at *
                        try generalize Int32.toInt dc = z4 at *
                        try generalize Int32.toInt gd = z5 at *
                        try generalize Int32.toInt mn = z6 at *
                        try generalize Int32.toInt (0 : Int32) = z7 at *
                        try generalize Int32.toInt (1 : Int32) = z8 at *
                        try generalize Int32.toInt (5 : Int32) = z9 at *
                        try generalize Int32.toInt k = z10 at *
                        omega
                      exact loop_217 1 (1) (lz) _ _ ls hR  v_538 hP hD hS (lv_sub hl [1, 2, 0] rfl)
      · rw [if_neg c_310] at hR
        refine lv_aload_n hx hb dX9_segment_106 rfl (lv_at hl 0 rfl) ?_
        refine va_get (D := (dC, dI)) (ci := 9) (v := .ref a6) (C := RX9) (T := TX9) (N := 17) hx hb hts inc_X9_segment_9 hown hG.1 hP 0 rfl rfl 13 (by decide) (hts (.fieldLink RX9 52 "MappingDeskModel" "latest" "[J") (by decide +kernel)) (fun _ h9 => h9) rfl dX9_segment_107 ?_
        refine lv_iload_n hx hb dX9_segment_110 rfl (lv_at hl 3 rfl) ?_
        refine lv_iconst (v := 1) hx hb dX9_segment_111 (by decide) ?_
        refine lv_iadd hx hb dX9_segment_112 ?_
        refine lv_dup2_11 hx hb dX9_segment_113 rfl rfl ?_
        have b_550 : vp_in (k + 1) 6 := by
          have q_551 := i_nle c_310
          have k_552 : (1 : Int32).toInt = 1 := by decide
          have t_553 := ti_add (a := k) (b := 1) (by omega) (by omega)
          refine vin ?_ ?_
          all_goals (try generalize Int32.toInt (k + 1) = z0 at *; try generalize Int32.toInt dc = z1 at *; try generalize Int32.toInt mn = z2 at *; try generalize Int32.toInt (1 : Int32) = z3 at *; try generalize Int32.toInt k = z4 at *; omega)
        refine va_lald hx hb hG.1 hP 3 3 rfl rfl b_550 dX9_segment_114 ?_
        refine lv_aload_n hx hb dX9_segment_115 rfl (lv_at hl 0 rfl) ?_
        refine va_get (D := (dC, dI)) (ci := 9) (v := .ref a5) (C := RX9) (T := TX9) (N := 17) hx hb hts inc_X9_segment_9 hown hG.1 hP 0 rfl rfl 11 (by decide) (hts (.fieldLink RX9 45 "MappingDeskModel" "nums" "[J") (by decide +kernel)) (fun _ h9 => h9) rfl dX9_segment_116 ?_
        refine lv_iload_n hx hb dX9_segment_119 rfl (lv_at hl 3 rfl) ?_
        have b_556 : vp_in k 6 := by
          have q_557 := i_nle c_310
          refine vin ?_ ?_
          all_goals (try generalize Int32.toInt dc = z0 at *; try generalize Int32.toInt mn = z1 at *; try generalize Int32.toInt k = z2 at *; omega)
        refine va_lald hx hb hG.1 hP 2 3 rfl rfl b_556 dX9_segment_120 ?_
        refine lv_ladd hx hb dX9_segment_121 ?_
        have b_560 : vp_in (k + 1) 6 := by
          have q_561 := i_nle c_310
          have k_562 : (1 : Int32).toInt = 1 := by decide
          have t_563 := ti_add (a := k) (b := 1) (by omega) (by omega)
          refine vin ?_ ?_
          all_goals (try generalize Int32.toInt (k + 1) = z0 at *; try generalize Int32.toInt dc = z1 at *; try generalize Int32.toInt mn = z2 at *; try generalize Int32.toInt (1 : Int32) = z3 at *; try generalize Int32.toInt k = z4 at *; omega)
        refine va_last hx hb hG.1 hP hD hS 3 3 rfl rfl b_560 dX9_segment_122 (fun H locs hP hD hS => ?_)
        have hP : va_P (dC, dI) vwCl [(h0, .inr (9, [.int th, .ref a0, .ref a1, .ref a2, .int dc, .ref a3, .int tl, .ref a4, .int xl, .int fo, .int fa, .ref a5, .int mn, .ref a6, .int ft, .ref a7, .int wl])), (a2, .inl (cI, 1800, .inl dr)), (a5, .inl (cJ, 6, .inr (.inl nu))), (a6, .inl (cJ, 6, .inr (.inl (vp_updL lz (k + 1).toNatClampNeg ((lz (k + 1).toNatClampNeg) + (nu k.toNatClampNeg))))))] H := hP
        have hD : va_D A [(h0, .inr (9, [.int th, .ref a0, .ref a1, .ref a2, .int dc, .ref a3, .int tl, .ref a4, .int xl, .int fo, .int fa, .ref a5, .int mn, .ref a6, .int ft, .ref a7, .int wl])), (a2, .inl (cI, 1800, .inl dr)), (a5, .inl (cJ, 6, .inr (.inl nu))), (a6, .inl (cJ, 6, .inr (.inl (vp_updL lz (k + 1).toNatClampNeg ((lz (k + 1).toNatClampNeg) + (nu k.toNatClampNeg))))))] := hD
        refine lv_iinc (v := (k + 1)) (lv' := [(3, .int (k + 1)), (0, .ref h0), (1, .int x), (2, .int gd)]) hx hb dX9_segment_123 hl (k := 3) rfl rfl (by decide) rfl (fun ls hl => ?_)
        refine lv_goto (tgt := 98) hx hb dX9_segment_126 (by decide) ?_
        have v_567 : 1 ≤ ((k + 1)).toInt := by
          have q_568 := i_nle c_310
          have k_569 : (1 : Int32).toInt = 1 := by decide
          have t_570 := ti_add (a := k) (b := 1) (by omega) (by omega)
          try generalize Int32.toInt (k + 1) = z0 at *
          try generalize Int32.toInt dc = z1 at *
          try generalize Int32.toInt mn = z2 at *
          try generalize Int32.toInt (1 : Int32) = z3 at *
          try generalize Int32.toInt k = z4 at *
          omega
        have v_571 : ((k + 1)).toInt ≤ mn.toInt := by
          have q_572 := i_nle c_310
          have k_573 : (1 : Int32).toInt = 1 := by decide
          have t_574 := ti_add (a := k) (b := 1) (by omega) (by omega)
          try generalize Int32.toInt (k + 1) = z0 at *
          try generalize Int32.toInt dc = z1 at *
          try generalize Int32.toInt mn = z2 at *
          try generalize Int32.toInt (1 : Int32) = z3 at *
          try generalize Int32.toInt k = z4 at *
          omega
        have v_575 : mn.toInt ≤ 5 := by
          first | exact hm | assumption
        have v_576 : 6 - ((k + 1)).toInt < ((n : Nat) : Int) := by
          have q_577 := i_nle c_310
          have k_578 : (1 : Int32).toInt = 1 := by decide
          have t_579 := ti_add (a := k) (b := 1) (by omega) (by omega)
          try generalize Int32.toInt (k + 1) = z0 at *
          try generalize Int32.toInt dc = z1 at *
          try generalize Int32.toInt mn = z2 at *
          try generalize Int32.toInt (1 : Int32) = z3 at *
          try generalize Int32.toInt k = z4 at *
          omega
        exact ih ((k + 1)) (gd) ((vp_updL lz (k + 1).toNatClampNeg ((lz (k + 1).toNatClampNeg) + (nu k.toNatClampNeg)))) _ _ ls hR v_567 v_571 v_575 v_576 hP hD hS (lv_sub hl [1, 2, 3, 0] rfl)
  refine lv_aload_n hx hb dX9_segment_0 rfl (lv_at hl 0 rfl) ?_
  refine va_get (D := (dC, dI)) (ci := 9) (v := .int mn) (C := RX9) (T := TX9) (N := 17) hx hb hts inc_X9_segment_9 hown hG.1 hP 0 rfl rfl 12 (by decide) (hts (.fieldLink RX9 49 "MappingDeskModel" "many" "I") (by decide +kernel)) (fun _ h9 => h9) rfl dX9_segment_1 ?_
  refine lv_iconst (v := 1) hx hb dX9_segment_4 (by decide) ?_
  refine lv_icmp_eq (tgt := 31) hx hb dX9_segment_5 (by decide) (fun c_580 => ?_) (fun c_580 => ?_)
  · rw [if_pos c_580] at hR
    refine lv_aload_n hx hb dX9_segment_31 rfl (lv_at hl 0 rfl) ?_
    refine va_get (D := (dC, dI)) (ci := 9) (v := .ref a5) (C := RX9) (T := TX9) (N := 17) hx hb hts inc_X9_segment_9 hown hG.1 hP 0 rfl rfl 11 (by decide) (hts (.fieldLink RX9 45 "MappingDeskModel" "nums" "[J") (by decide +kernel)) (fun _ h9 => h9) rfl dX9_segment_32 ?_
    refine lv_iconst (v := 0) hx hb dX9_segment_35 (by decide) ?_
    have b_581 : vp_in 0 6 := by
      have k_582 : (1 : Int32).toInt = 1 := by decide
      have q_583 := i_eq c_580
      have k_584 : (0 : Int32).toInt = 0 := by decide
      refine vin ?_ ?_
      all_goals (try generalize Int32.toInt dc = z0 at *; try generalize Int32.toInt mn = z1 at *; try generalize Int32.toInt (0 : Int32) = z2 at *; try generalize Int32.toInt (1 : Int32) = z3 at *; omega)
    refine va_lald hx hb hG.1 hP 2 3 rfl rfl b_581 dX9_segment_36 ?_
    refine lv_lconst (v := 0) hx hb dX9_segment_37 (by decide) ?_
    refine W.lcmp hx hb dX9_segment_38 ?_
    refine lv_if_lt (tgt := 46) hx hb dX9_segment_39 (by decide) (fun c_587 => ?_) (fun c_587 => ?_)
    · rw [if_pos c_587] at hR
      refine lv_iconst (v := 0) hx hb dX9_segment_46 (by decide) ?_
      refine lv_istore_n (lv' := [(2, .int 0), (0, .ref h0), (1, .int x)]) hx hb dX9_segment_47 rfl hl (by decide) rfl (fun ls hl => ?_)
      refine lv_aload_n hx hb dX9_segment_48 rfl (lv_at hl 1 rfl) ?_
      refine va_get (D := (dC, dI)) (ci := 9) (v := .ref a6) (C := RX9) (T := TX9) (N := 17) hx hb hts inc_X9_segment_9 hown hG.1 hP 0 rfl rfl 13 (by decide) (hts (.fieldLink RX9 52 "MappingDeskModel" "latest" "[J") (by decide +kernel)) (fun _ h9 => h9) rfl dX9_segment_49 ?_
      refine lv_iconst (v := 1) hx hb dX9_segment_52 (by decide) ?_
      refine lv_dup2_11 hx hb dX9_segment_53 rfl rfl ?_
      have b_588 : vp_in 1 6 := by
        have k_589 : (1 : Int32).toInt = 1 := by decide
        have q_590 := i_eq c_580
        refine vin ?_ ?_
        all_goals (try generalize Int32.toInt dc = z0 at *; try generalize Int32.toInt mn = z1 at *; try generalize Int32.toInt (1 : Int32) = z2 at *; omega)
      refine va_lald hx hb hG.1 hP 3 3 rfl rfl b_588 dX9_segment_54 ?_
      refine lv_aload_n hx hb dX9_segment_55 rfl (lv_at hl 1 rfl) ?_
      refine va_get (D := (dC, dI)) (ci := 9) (v := .ref a5) (C := RX9) (T := TX9) (N := 17) hx hb hts inc_X9_segment_9 hown hG.1 hP 0 rfl rfl 11 (by decide) (hts (.fieldLink RX9 45 "MappingDeskModel" "nums" "[J") (by decide +kernel)) (fun _ h9 => h9) rfl dX9_segment_56 ?_
      refine lv_iconst (v := 0) hx hb dX9_segment_59 (by decide) ?_
      have b_593 : vp_in 0 6 := by
        have k_594 : (1 : Int32).toInt = 1 := by decide
        have q_595 := i_eq c_580
        have k_596 : (0 : Int32).toInt = 0 := by decide
        refine vin ?_ ?_
        all_goals (try generalize Int32.toInt dc = z0 at *; try generalize Int32.toInt mn = z1 at *; try generalize Int32.toInt (0 : Int32) = z2 at *; try generalize Int32.toInt (1 : Int32) = z3 at *; omega)
      refine va_lald hx hb hG.1 hP 2 3 rfl rfl b_593 dX9_segment_60 ?_
      refine lv_ladd hx hb dX9_segment_61 ?_
      have b_599 : vp_in 1 6 := by
        have k_600 : (1 : Int32).toInt = 1 := by decide
        have q_601 := i_eq c_580
        refine vin ?_ ?_
        all_goals (try generalize Int32.toInt dc = z0 at *; try generalize Int32.toInt mn = z1 at *; try generalize Int32.toInt (1 : Int32) = z2 at *; omega)
      refine va_last hx hb hG.1 hP hD hS 3 3 rfl rfl b_599 dX9_segment_62 (fun H locs hP hD hS => ?_)
      have hP : va_P (dC, dI) vwCl [(h0, .inr (9, [.int th, .ref a0, .ref a1, .ref a2, .int dc, .ref a3, .int tl, .ref a4, .int xl, .int fo, .int fa, .ref a5, .int mn, .ref a6, .int ft, .ref a7, .int wl])), (a2, .inl (cI, 1800, .inl dr)), (a5, .inl (cJ, 6, .inr (.inl nu))), (a6, .inl (cJ, 6, .inr (.inl (vp_updL la (1 : Int32).toNatClampNeg ((la (1 : Int32).toNatClampNeg) + (nu (0 : Int32).toNatClampNeg))))))] H := hP
      have hD : va_D A [(h0, .inr (9, [.int th, .ref a0, .ref a1, .ref a2, .int dc, .ref a3, .int tl, .ref a4, .int xl, .int fo, .int fa, .ref a5, .int mn, .ref a6, .int ft, .ref a7, .int wl])), (a2, .inl (cI, 1800, .inl dr)), (a5, .inl (cJ, 6, .inr (.inl nu))), (a6, .inl (cJ, 6, .inr (.inl (vp_updL la (1 : Int32).toNatClampNeg ((la (1 : Int32).toNatClampNeg) + (nu (0 : Int32).toNatClampNeg))))))] := hD
      refine lv_iload_n hx hb dX9_segment_63 rfl (lv_at hl 0 rfl) ?_
      refine lv_if_eq (tgt := 86) hx hb dX9_segment_64 (by decide) (fun c_604 => ?_) (fun c_604 => ?_)
      · refine lv_iconst (v := 0) hx hb dX9_segment_86 (by decide) ?_
        refine lv_istore_n (lv' := [(2, .int 0), (0, .ref h0), (1, .int x)]) hx hb dX9_segment_87 rfl hl (by decide) rfl (fun ls hl => ?_)
        refine lv_aload_n hx hb dX9_segment_88 rfl (lv_at hl 1 rfl) ?_
        refine va_get (D := (dC, dI)) (ci := 9) (v := .int mn) (C := RX9) (T := TX9) (N := 17) hx hb hts inc_X9_segment_9 hown hG.1 hP 0 rfl rfl 12 (by decide) (hts (.fieldLink RX9 49 "MappingDeskModel" "many" "I") (by decide +kernel)) (fun _ h9 => h9) rfl dX9_segment_89 ?_
        refine lv_iconst (v := 1) hx hb dX9_segment_92 (by decide) ?_
        refine lv_icmp_le (tgt := 217) hx hb dX9_segment_93 (by decide) (fun c_605 => ?_) (fun c_605 => ?_)
        · rw [if_pos c_605] at hR
          have v_611 : 0 < ((1 : Nat) : Int) := by
            have k_612 : (1 : Int32).toInt = 1 := by decide
            have q_613 := i_eq c_580
            have k_614 : (0 : Int32).toInt = 0 := by decide
            have q_615 := i_eq c_604
            have q_616 := i_le c_605
            try generalize Int32.toInt dc = z0 at *
            try generalize Int32.toInt mn = z1 at *
            try generalize Int32.toInt (0 : Int32) = z2 at *
            try generalize Int32.toInt (1 : Int32) = z3 at *
            omega
          exact loop_217 1 (0) ((vp_updL la (1 : Int32).toNatClampNeg ((la (1 : Int32).toNatClampNeg) + (nu (0 : Int32).toNatClampNeg)))) _ _ ls hR  v_611 hP hD hS (lv_sub hl [1, 2, 0] rfl)
        · rw [if_neg c_605] at hR
          refine lv_iconst (v := 1) hx hb dX9_segment_96 (by decide) ?_
          refine lv_istore_n (lv' := [(3, .int 1), (2, .int 0), (0, .ref h0), (1, .int x)]) hx hb dX9_segment_97 rfl hl (by decide) rfl (fun ls hl => ?_)
          have v_622 : 1 ≤ (1 : Int32).toInt := by
            have k_623 : (1 : Int32).toInt = 1 := by decide
            have q_624 := i_eq c_580
            have k_625 : (0 : Int32).toInt = 0 := by decide
            have q_626 := i_eq c_604
            have q_627 := i_nle c_605
            try generalize Int32.toInt dc = z0 at *
            try generalize Int32.toInt mn = z1 at *
            try generalize Int32.toInt (0 : Int32) = z2 at *
            try generalize Int32.toInt (1 : Int32) = z3 at *
            omega
          have v_628 : (1 : Int32).toInt ≤ mn.toInt := by
            have k_629 : (1 : Int32).toInt = 1 := by decide
            have q_630 := i_eq c_580
            have k_631 : (0 : Int32).toInt = 0 := by decide
            have q_632 := i_eq c_604
            have q_633 := i_nle c_605
            try generalize Int32.toInt dc = z0 at *
            try generalize Int32.toInt mn = z1 at *
            try generalize Int32.toInt (0 : Int32) = z2 at *
            try generalize Int32.toInt (1 : Int32) = z3 at *
            omega
          have v_634 : mn.toInt ≤ 5 := by
            have k_635 : (1 : Int32).toInt = 1 := by decide
            have q_636 := i_eq c_580
            have k_637 : (0 : Int32).toInt = 0 := by decide
            have q_638 := i_eq c_604
            have q_639 := i_nle c_605
            try generalize Int32.toInt dc = z0 at *
            try generalize Int32.toInt mn = z1 at *
            try generalize Int32.toInt (0 : Int32) = z2 at *
            try generalize Int32.toInt (1 : Int32) = z3 at *
            omega
          have v_640 : 6 - (1 : Int32).toInt < ((7 : Nat) : Int) := by
            have k_641 : (1 : Int32).toInt = 1 := by decide
            have q_642 := i_eq c_580
            have k_643 : (0 : Int32).toInt = 0 := by decide
            have q_644 := i_eq c_604
            have q_645 := i_nle c_605
            try generalize Int32.toInt dc = z0 at *
            try generalize Int32.toInt mn = z1 at *
            try generalize Int32.toInt (0 : Int32) = z2 at *
            try generalize Int32.toInt (1 : Int32) = z3 at *
            omega
          exact loop_98 7 (1) (0) ((vp_updL la (1 : Int32).toNatClampNeg ((la (1 : Int32).toNatClampNeg) + (nu (0 : Int32).toNatClampNeg)))) _ _ ls hR v_622 v_628 v_634 v_640 hP hD hS (lv_sub hl [2, 3, 1, 0] rfl)
      · exact absurd (by decide) c_604
    · rw [if_neg c_587] at hR
      refine lv_iconst (v := 1) hx hb dX9_segment_42 (by decide) ?_
      refine lv_goto (tgt := 47) hx hb dX9_segment_43 (by decide) ?_
      refine lv_istore_n (lv' := [(2, .int 1), (0, .ref h0), (1, .int x)]) hx hb dX9_segment_47 rfl hl (by decide) rfl (fun ls hl => ?_)
      refine lv_aload_n hx hb dX9_segment_48 rfl (lv_at hl 1 rfl) ?_
      refine va_get (D := (dC, dI)) (ci := 9) (v := .ref a6) (C := RX9) (T := TX9) (N := 17) hx hb hts inc_X9_segment_9 hown hG.1 hP 0 rfl rfl 13 (by decide) (hts (.fieldLink RX9 52 "MappingDeskModel" "latest" "[J") (by decide +kernel)) (fun _ h9 => h9) rfl dX9_segment_49 ?_
      refine lv_iconst (v := 1) hx hb dX9_segment_52 (by decide) ?_
      refine lv_dup2_11 hx hb dX9_segment_53 rfl rfl ?_
      have b_646 : vp_in 1 6 := by
        have k_647 : (1 : Int32).toInt = 1 := by decide
        have q_648 := i_eq c_580
        refine vin ?_ ?_
        all_goals (try generalize Int32.toInt dc = z0 at *; try generalize Int32.toInt mn = z1 at *; try generalize Int32.toInt (1 : Int32) = z2 at *; omega)
      refine va_lald hx hb hG.1 hP 3 3 rfl rfl b_646 dX9_segment_54 ?_
      refine lv_aload_n hx hb dX9_segment_55 rfl (lv_at hl 1 rfl) ?_
      refine va_get (D := (dC, dI)) (ci := 9) (v := .ref a5) (C := RX9) (T := TX9) (N := 17) hx hb hts inc_X9_segment_9 hown hG.1 hP 0 rfl rfl 11 (by decide) (hts (.fieldLink RX9 45 "MappingDeskModel" "nums" "[J") (by decide +kernel)) (fun _ h9 => h9) rfl dX9_segment_56 ?_
      refine lv_iconst (v := 0) hx hb dX9_segment_59 (by decide) ?_
      have b_651 : vp_in 0 6 := by
        have k_652 : (1 : Int32).toInt = 1 := by decide
        have q_653 := i_eq c_580
        have k_654 : (0 : Int32).toInt = 0 := by decide
        refine vin ?_ ?_
        all_goals (try generalize Int32.toInt dc = z0 at *; try generalize Int32.toInt mn = z1 at *; try generalize Int32.toInt (0 : Int32) = z2 at *; try generalize Int32.toInt (1 : Int32) = z3 at *; omega)
      refine va_lald hx hb hG.1 hP 2 3 rfl rfl b_651 dX9_segment_60 ?_
      refine lv_ladd hx hb dX9_segment_61 ?_
      have b_657 : vp_in 1 6 := by
        have k_658 : (1 : Int32).toInt = 1 := by decide
        have q_659 := i_eq c_580
        refine vin ?_ ?_
        all_goals (try generalize Int32.toInt dc = z0 at *; try generalize Int32.toInt mn = z1 at *; try generalize Int32.toInt (1 : Int32) = z2 at *; omega)
      refine va_last hx hb hG.1 hP hD hS 3 3 rfl rfl b_657 dX9_segment_62 (fun H locs hP hD hS => ?_)
      have hP : va_P (dC, dI) vwCl [(h0, .inr (9, [.int th, .ref a0, .ref a1, .ref a2, .int dc, .ref a3, .int tl, .ref a4, .int xl, .int fo, .int fa, .ref a5, .int mn, .ref a6, .int ft, .ref a7, .int wl])), (a2, .inl (cI, 1800, .inl dr)), (a5, .inl (cJ, 6, .inr (.inl nu))), (a6, .inl (cJ, 6, .inr (.inl (vp_updL la (1 : Int32).toNatClampNeg ((la (1 : Int32).toNatClampNeg) + (nu (0 : Int32).toNatClampNeg))))))] H := hP
      have hD : va_D A [(h0, .inr (9, [.int th, .ref a0, .ref a1, .ref a2, .int dc, .ref a3, .int tl, .ref a4, .int xl, .int fo, .int fa, .ref a5, .int mn, .ref a6, .int ft, .ref a7, .int wl])), (a2, .inl (cI, 1800, .inl dr)), (a5, .inl (cJ, 6, .inr (.inl nu))), (a6, .inl (cJ, 6, .inr (.inl (vp_updL la (1 : Int32).toNatClampNeg ((la (1 : Int32).toNatClampNeg) + (nu (0 : Int32).toNatClampNeg))))))] := hD
      refine lv_iload_n hx hb dX9_segment_63 rfl (lv_at hl 0 rfl) ?_
      refine lv_if_eq (tgt := 86) hx hb dX9_segment_64 (by decide) (fun c_662 => ?_) (fun c_662 => ?_)
      · exact absurd c_662 (by decide)
      · refine lv_aload_n hx hb dX9_segment_67 rfl (lv_at hl 1 rfl) ?_
        refine va_get (D := (dC, dI)) (ci := 9) (v := .ref a6) (C := RX9) (T := TX9) (N := 17) hx hb hts inc_X9_segment_9 hown hG.1 hP 0 rfl rfl 13 (by decide) (hts (.fieldLink RX9 52 "MappingDeskModel" "latest" "[J") (by decide +kernel)) (fun _ h9 => h9) rfl dX9_segment_68 ?_
        refine lv_iconst (v := 1) hx hb dX9_segment_71 (by decide) ?_
        have b_663 : vp_in 1 6 := by
          have k_664 : (1 : Int32).toInt = 1 := by decide
          have q_665 := i_eq c_580
          have k_666 : (0 : Int32).toInt = 0 := by decide
          have q_667 := i_ne c_662
          refine vin ?_ ?_
          all_goals (try generalize Int32.toInt dc = z0 at *; try generalize Int32.toInt mn = z1 at *; try generalize Int32.toInt (0 : Int32) = z2 at *; try generalize Int32.toInt (1 : Int32) = z3 at *; omega)
        refine va_lald hx hb hG.1 hP 3 3 rfl rfl b_663 dX9_segment_72 ?_
        refine lv_ldc2 (v := 999999) hx hb hown (hts (.constantLong RX9 75 999999) (by decide +kernel)) dX9_segment_73 ?_
        have hPc := hP.sub (ws' := []) [] rfl
        have hDc := hD.sub (ws' := []) [] (by decide) rfl
        refine vp_callSi (va_Run.run (va_runS (As := [.long ((vp_updL la (1 : Int32).toNatClampNeg ((la (1 : Int32).toNatClampNeg) + (nu (0 : Int32).toNatClampNeg))) (1 : Int32).toNatClampNeg), .long 999999]) (rest := []) ⟨hx, hb, hml, hown, hts⟩ (c_X9_within l dC dI cB cC cI cJ H.size ((vp_updL la (1 : Int32).toNatClampNeg ((la (1 : Int32).toNatClampNeg) + (nu (0 : Int32).toNatClampNeg))) (1 : Int32).toNatClampNeg) 999999 ) (va_cwS 2 hts gX9_segment_X9_within rfl rfl rfl (by decide +kernel) ⟨(Nat.le_of_ble_eq_true rfl), (Nat.le_of_ble_eq_true rfl)⟩) ⟨cP_blind, cP_pre hPc hG hDc⟩ rfl rfl hl.1 rfl (lv_room (Nat.le_of_ble_eq_true rfl)) dX9_segment_76 ⟨Nat.le_of_ble_eq_true rfl, Nat.le_of_ble_eq_true rfl⟩)) (fun r_670 hr_670 => ?_)
        rw [bnd_eq hr_670.symm] at hR
        refine lv_if_eq (tgt := 86) hx hb dX9_segment_79 (by decide) (fun c_671 => ?_) (fun c_671 => ?_)
        · rw [if_pos c_671] at hR
          refine lv_iconst (v := 0) hx hb dX9_segment_86 (by decide) ?_
          refine lv_istore_n (lv' := [(2, .int 0), (0, .ref h0), (1, .int x)]) hx hb dX9_segment_87 rfl hl (by decide) rfl (fun ls hl => ?_)
          refine lv_aload_n hx hb dX9_segment_88 rfl (lv_at hl 1 rfl) ?_
          refine va_get (D := (dC, dI)) (ci := 9) (v := .int mn) (C := RX9) (T := TX9) (N := 17) hx hb hts inc_X9_segment_9 hown hG.1 hP 0 rfl rfl 12 (by decide) (hts (.fieldLink RX9 49 "MappingDeskModel" "many" "I") (by decide +kernel)) (fun _ h9 => h9) rfl dX9_segment_89 ?_
          refine lv_iconst (v := 1) hx hb dX9_segment_92 (by decide) ?_
          refine lv_icmp_le (tgt := 217) hx hb dX9_segment_93 (by decide) (fun c_672 => ?_) (fun c_672 => ?_)
          · rw [if_pos c_672] at hR
            have v_679 : 0 < ((1 : Nat) : Int) := by
              have k_680 : (1 : Int32).toInt = 1 := by decide
              have q_681 := i_eq c_580
              have k_682 : (0 : Int32).toInt = 0 := by decide
              have q_683 := i_ne c_662
              have q_684 := i_eq c_671
              have q_685 := i_le c_672
              try generalize Int32.toInt r_670 = z0 at *
              try generalize Int32.toInt dc = z1 at *
              try generalize Int32.toInt mn = z2 at *
              try generalize Int32.toInt (0 : Int32) = z3 at *
              try generalize Int32.toInt (1 : Int32) = z4 at *
              omega
            exact loop_217 1 (0) ((vp_updL la (1 : Int32).toNatClampNeg ((la (1 : Int32).toNatClampNeg) + (nu (0 : Int32).toNatClampNeg)))) _ _ ls hR  v_679 hP hD hS (lv_sub hl [1, 2, 0] rfl)
          · rw [if_neg c_672] at hR
            refine lv_iconst (v := 1) hx hb dX9_segment_96 (by decide) ?_
            refine lv_istore_n (lv' := [(3, .int 1), (2, .int 0), (0, .ref h0), (1, .int x)]) hx hb dX9_segment_97 rfl hl (by decide) rfl (fun ls hl => ?_)
            have v_692 : 1 ≤ (1 : Int32).toInt := by
              have k_693 : (1 : Int32).toInt = 1 := by decide
              have q_694 := i_eq c_580
              have k_695 : (0 : Int32).toInt = 0 := by decide
              have q_696 := i_ne c_662
              have q_697 := i_eq c_671
              have q_698 := i_nle c_672
              try generalize Int32.toInt r_670 = z0 at *
              try generalize Int32.toInt dc = z1 at *
              try generalize Int32.toInt mn = z2 at *
              try generalize Int32.toInt (0 : Int32) = z3 at *
              try generalize Int32.toInt (1 : Int32) = z4 at *
              omega
            have v_699 : (1 : Int32).toInt ≤ mn.toInt := by
              have k_700 : (1 : Int32).toInt = 1 := by decide
              have q_701 := i_eq c_580
              have k_702 : (0 : Int32).toInt = 0 := by decide
              have q_703 := i_ne c_662
              have q_704 := i_eq c_671
              have q_705 := i_nle c_672
              try generalize Int32.toInt r_670 = z0 at *
              try generalize Int32.toInt dc = z1 at *
              try generalize Int32.toInt mn = z2 at *
              try generalize Int32.toInt (0 : Int32) = z3 at *
              try generalize Int32.toInt (1 : Int32) = z4 at *
              omega
            have v_706 : mn.toInt ≤ 5 := by
              have k_707 : (1 : Int32).toInt = 1 := by decide
              have q_708 := i_eq c_580
              have k_709 : (0 : Int32).toInt = 0 := by decide
              have q_710 := i_ne c_662
              have q_711 := i_eq c_671
              have q_712 := i_nle c_672
              try generalize Int32.toInt r_670 = z0 at *
              try generalize Int32.toInt dc = z1 at *
              try generalize Int32.toInt mn = z2 at *
              try generalize Int32.toInt (0 : Int32) = z3 at *
              try generalize Int32.toInt (1 : Int32) = z4 at *
              omega
            have v_713 : 6 - (1 : Int32).toInt < ((7 : Nat) : Int) := by
              have k_714 : (1 : Int32).toInt = 1 := by decide
              have q_715 := i_eq c_580
              have k_716 : (0 : Int32).toInt = 0 := by decide
              have q_717 := i_ne c_662
              have q_718 := i_eq c_671
              have q_719 := i_nle c_672
              try generalize Int32.toInt r_670 = z0 at *
              try generalize Int32.toInt dc = z1 at *
              try generalize Int32.toInt mn = z2 at *
              try generalize Int32.toInt (0 : Int32) = z3 at *
              try generalize Int32.toInt (1 : Int32) = z4 at *
              omega
            exact loop_98 7 (1) (0) ((vp_updL la (1 : Int32).toNatClampNeg ((la (1 : Int32).toNatClampNeg) + (nu (0 : Int32).toNatClampNeg)))) _ _ ls hR v_692 v_699 v_706 v_713 hP hD hS (lv_sub hl [2, 3, 1, 0] rfl)
        · rw [if_neg c_671] at hR
          refine lv_iconst (v := 1) hx hb dX9_segment_82 (by decide) ?_
          refine lv_goto (tgt := 87) hx hb dX9_segment_83 (by decide) ?_
          refine lv_istore_n (lv' := [(2, .int 1), (0, .ref h0), (1, .int x)]) hx hb dX9_segment_87 rfl hl (by decide) rfl (fun ls hl => ?_)
          refine lv_aload_n hx hb dX9_segment_88 rfl (lv_at hl 1 rfl) ?_
          refine va_get (D := (dC, dI)) (ci := 9) (v := .int mn) (C := RX9) (T := TX9) (N := 17) hx hb hts inc_X9_segment_9 hown hG.1 hP 0 rfl rfl 12 (by decide) (hts (.fieldLink RX9 49 "MappingDeskModel" "many" "I") (by decide +kernel)) (fun _ h9 => h9) rfl dX9_segment_89 ?_
          refine lv_iconst (v := 1) hx hb dX9_segment_92 (by decide) ?_
          refine lv_icmp_le (tgt := 217) hx hb dX9_segment_93 (by decide) (fun c_720 => ?_) (fun c_720 => ?_)
          · rw [if_pos c_720] at hR
            have v_727 : 0 < ((1 : Nat) : Int) := by
              have k_728 : (1 : Int32).toInt = 1 := by decide
              have q_729 := i_eq c_580
              have k_730 : (0 : Int32).toInt = 0 := by decide
              have q_731 := i_ne c_662
              have q_732 := i_ne c_671
              have q_733 := i_le c_720
              try generalize Int32.toInt r_670 = z0 at *
              try generalize Int32.toInt dc = z1 at *
              try generalize Int32.toInt mn = z2 at *
              try generalize Int32.toInt (0 : Int32) = z3 at *
              try generalize Int32.toInt (1 : Int32) = z4 at *
              omega
            exact loop_217 1 (1) ((vp_updL la (1 : Int32).toNatClampNeg ((la (1 : Int32).toNatClampNeg) + (nu (0 : Int32).toNatClampNeg)))) _ _ ls hR  v_727 hP hD hS (lv_sub hl [1, 2, 0] rfl)
          · rw [if_neg c_720] at hR
            refine lv_iconst (v := 1) hx hb dX9_segment_96 (by decide) ?_
            refine lv_istore_n (lv' := [(3, .int 1), (2, .int 1), (0, .ref h0), (1, .int x)]) hx hb dX9_segment_97 rfl hl (by decide) rfl (fun ls hl => ?_)
            have v_740 : 1 ≤ (1 : Int32).toInt := by
              have k_741 : (1 : Int32).toInt = 1 := by decide
              have q_742 := i_eq c_580
              have k_743 : (0 : Int32).toInt = 0 := by decide
              have q_744 := i_ne c_662
              have q_745 := i_ne c_671
              have q_746 := i_nle c_720
              try generalize Int32.toInt r_670 = z0 at *
              try generalize Int32.toInt dc = z1 at *
              try generalize Int32.toInt mn = z2 at *
              try generalize Int32.toInt (0 : Int32) = z3 at *
              try generalize Int32.toInt (1 : Int32) = z4 at *
              omega
            have v_747 : (1 : Int32).toInt ≤ mn.toInt := by
              have k_748 : (1 : Int32).toInt = 1 := by decide
              have q_749 := i_eq c_580
              have k_750 : (0 : Int32).toInt = 0 := by decide
              have q_751 := i_ne c_662
              have q_752 := i_ne c_671
              have q_753 := i_nle c_720
              try generalize Int32.toInt r_670 = z0 at *
              try generalize Int32.toInt dc = z1 at *
              try generalize Int32.toInt mn = z2 at *
              try generalize Int32.toInt (0 : Int32) = z3 at *
              try generalize Int32.toInt (1 : Int32) = z4 at *
              omega
            have v_754 : mn.toInt ≤ 5 := by
              have k_755 : (1 : Int32).toInt = 1 := by decide
              have q_756 := i_eq c_580
              have k_757 : (0 : Int32).toInt = 0 := by decide
              have q_758 := i_ne c_662
              have q_759 := i_ne c_671
              have q_760 := i_nle c_720
              try generalize Int32.toInt r_670 = z0 at *
              try generalize Int32.toInt dc = z1 at *
              try generalize Int32.toInt mn = z2 at *
              try generalize Int32.toInt (0 : Int32) = z3 at *
              try generalize Int32.toInt (1 : Int32) = z4 at *
              omega
            have v_761 : 6 - (1 : Int32).toInt < ((7 : Nat) : Int) := by
              have k_762 : (1 : Int32).toInt = 1 := by decide
              have q_763 := i_eq c_580
              have k_764 : (0 : Int32).toInt = 0 := by decide
              have q_765 := i_ne c_662
              have q_766 := i_ne c_671
              have q_767 := i_nle c_720
              try generalize Int32.toInt r_670 = z0 at *
              try generalize Int32.toInt dc = z1 at *
              try generalize Int32.toInt mn = z2 at *
              try generalize Int32.toInt (0 : Int32) = z3 at *
              try generalize Int32.toInt (1 : Int32) = z4 at *
              omega
            exact loop_98 7 (1) (1) ((vp_updL la (1 : Int32).toNatClampNeg ((la (1 : Int32).toNatClampNeg) + (nu (0 : Int32).toNatClampNeg)))) _ _ ls hR v_740 v_747 v_754 v_761 hP hD hS (lv_sub hl [2, 3, 1, 0] rfl)
  · rw [if_neg c_580] at hR
    refine lv_aload_n hx hb dX9_segment_8 rfl (lv_at hl 0 rfl) ?_
    refine va_get (D := (dC, dI)) (ci := 9) (v := .int mn) (C := RX9) (T := TX9) (N := 17) hx hb hts inc_X9_segment_9 hown hG.1 hP 0 rfl rfl 12 (by decide) (hts (.fieldLink RX9 49 "MappingDeskModel" "many" "I") (by decide +kernel)) (fun _ h9 => h9) rfl dX9_segment_9 ?_
    refine lv_iconst (v := 4) hx hb dX9_segment_12 (by decide) ?_
    refine lv_icmp_eq (tgt := 31) hx hb dX9_segment_13 (by decide) (fun c_768 => ?_) (fun c_768 => ?_)
    · rw [if_pos c_768] at hR
      refine lv_aload_n hx hb dX9_segment_31 rfl (lv_at hl 0 rfl) ?_
      refine va_get (D := (dC, dI)) (ci := 9) (v := .ref a5) (C := RX9) (T := TX9) (N := 17) hx hb hts inc_X9_segment_9 hown hG.1 hP 0 rfl rfl 11 (by decide) (hts (.fieldLink RX9 45 "MappingDeskModel" "nums" "[J") (by decide +kernel)) (fun _ h9 => h9) rfl dX9_segment_32 ?_
      refine lv_iconst (v := 0) hx hb dX9_segment_35 (by decide) ?_
      have b_769 : vp_in 0 6 := by
        have k_770 : (1 : Int32).toInt = 1 := by decide
        have q_771 := i_ne c_580
        have k_772 : (4 : Int32).toInt = 4 := by decide
        have q_773 := i_eq c_768
        have k_774 : (0 : Int32).toInt = 0 := by decide
        refine vin ?_ ?_
        all_goals (try generalize Int32.toInt dc = z0 at *; try generalize Int32.toInt mn = z1 at *; try generalize Int32.toInt (0 : Int32) = z2 at *; try generalize Int32.toInt (1 : Int32) = z3 at *; try generalize Int32.toInt (4 : Int32) = z4 at *; omega)
      refine va_lald hx hb hG.1 hP 2 3 rfl rfl b_769 dX9_segment_36 ?_
      refine lv_lconst (v := 0) hx hb dX9_segment_37 (by decide) ?_
      refine W.lcmp hx hb dX9_segment_38 ?_
      refine lv_if_lt (tgt := 46) hx hb dX9_segment_39 (by decide) (fun c_777 => ?_) (fun c_777 => ?_)
      · rw [if_pos c_777] at hR
        refine lv_iconst (v := 0) hx hb dX9_segment_46 (by decide) ?_
        refine lv_istore_n (lv' := [(2, .int 0), (0, .ref h0), (1, .int x)]) hx hb dX9_segment_47 rfl hl (by decide) rfl (fun ls hl => ?_)
        refine lv_aload_n hx hb dX9_segment_48 rfl (lv_at hl 1 rfl) ?_
        refine va_get (D := (dC, dI)) (ci := 9) (v := .ref a6) (C := RX9) (T := TX9) (N := 17) hx hb hts inc_X9_segment_9 hown hG.1 hP 0 rfl rfl 13 (by decide) (hts (.fieldLink RX9 52 "MappingDeskModel" "latest" "[J") (by decide +kernel)) (fun _ h9 => h9) rfl dX9_segment_49 ?_
        refine lv_iconst (v := 1) hx hb dX9_segment_52 (by decide) ?_
        refine lv_dup2_11 hx hb dX9_segment_53 rfl rfl ?_
        have b_778 : vp_in 1 6 := by
          have k_779 : (1 : Int32).toInt = 1 := by decide
          have q_780 := i_ne c_580
          have k_781 : (4 : Int32).toInt = 4 := by decide
          have q_782 := i_eq c_768
          refine vin ?_ ?_
          all_goals (try generalize Int32.toInt dc = z0 at *; try generalize Int32.toInt mn = z1 at *; try generalize Int32.toInt (1 : Int32) = z2 at *; try generalize Int32.toInt (4 : Int32) = z3 at *; omega)
        refine va_lald hx hb hG.1 hP 3 3 rfl rfl b_778 dX9_segment_54 ?_
        refine lv_aload_n hx hb dX9_segment_55 rfl (lv_at hl 1 rfl) ?_
        refine va_get (D := (dC, dI)) (ci := 9) (v := .ref a5) (C := RX9) (T := TX9) (N := 17) hx hb hts inc_X9_segment_9 hown hG.1 hP 0 rfl rfl 11 (by decide) (hts (.fieldLink RX9 45 "MappingDeskModel" "nums" "[J") (by decide +kernel)) (fun _ h9 => h9) rfl dX9_segment_56 ?_
        refine lv_iconst (v := 0) hx hb dX9_segment_59 (by decide) ?_
        have b_785 : vp_in 0 6 := by
          have k_786 : (1 : Int32).toInt = 1 := by decide
          have q_787 := i_ne c_580
          have k_788 : (4 : Int32).toInt = 4 := by decide
          have q_789 := i_eq c_768
          have k_790 : (0 : Int32).toInt = 0 := by decide
          refine vin ?_ ?_
          all_goals (try generalize Int32.toInt dc = z0 at *; try generalize Int32.toInt mn = z1 at *; try generalize Int32.toInt (0 : Int32) = z2 at *; try generalize Int32.toInt (1 : Int32) = z3 at *; try generalize Int32.toInt (4 : Int32) = z4 at *; omega)
        refine va_lald hx hb hG.1 hP 2 3 rfl rfl b_785 dX9_segment_60 ?_
        refine lv_ladd hx hb dX9_segment_61 ?_
        have b_793 : vp_in 1 6 := by
          have k_794 : (1 : Int32).toInt = 1 := by decide
          have q_795 := i_ne c_580
          have k_796 : (4 : Int32).toInt = 4 := by decide
          have q_797 := i_eq c_768
          refine vin ?_ ?_
          all_goals (try generalize Int32.toInt dc = z0 at *; try generalize Int32.toInt mn = z1 at *; try generalize Int32.toInt (1 : Int32) = z2 at *; try generalize Int32.toInt (4 : Int32) = z3 at *; omega)
        refine va_last hx hb hG.1 hP hD hS 3 3 rfl rfl b_793 dX9_segment_62 (fun H locs hP hD hS => ?_)
        have hP : va_P (dC, dI) vwCl [(h0, .inr (9, [.int th, .ref a0, .ref a1, .ref a2, .int dc, .ref a3, .int tl, .ref a4, .int xl, .int fo, .int fa, .ref a5, .int mn, .ref a6, .int ft, .ref a7, .int wl])), (a2, .inl (cI, 1800, .inl dr)), (a5, .inl (cJ, 6, .inr (.inl nu))), (a6, .inl (cJ, 6, .inr (.inl (vp_updL la (1 : Int32).toNatClampNeg ((la (1 : Int32).toNatClampNeg) + (nu (0 : Int32).toNatClampNeg))))))] H := hP
        have hD : va_D A [(h0, .inr (9, [.int th, .ref a0, .ref a1, .ref a2, .int dc, .ref a3, .int tl, .ref a4, .int xl, .int fo, .int fa, .ref a5, .int mn, .ref a6, .int ft, .ref a7, .int wl])), (a2, .inl (cI, 1800, .inl dr)), (a5, .inl (cJ, 6, .inr (.inl nu))), (a6, .inl (cJ, 6, .inr (.inl (vp_updL la (1 : Int32).toNatClampNeg ((la (1 : Int32).toNatClampNeg) + (nu (0 : Int32).toNatClampNeg))))))] := hD
        refine lv_iload_n hx hb dX9_segment_63 rfl (lv_at hl 0 rfl) ?_
        refine lv_if_eq (tgt := 86) hx hb dX9_segment_64 (by decide) (fun c_800 => ?_) (fun c_800 => ?_)
        · refine lv_iconst (v := 0) hx hb dX9_segment_86 (by decide) ?_
          refine lv_istore_n (lv' := [(2, .int 0), (0, .ref h0), (1, .int x)]) hx hb dX9_segment_87 rfl hl (by decide) rfl (fun ls hl => ?_)
          refine lv_aload_n hx hb dX9_segment_88 rfl (lv_at hl 1 rfl) ?_
          refine va_get (D := (dC, dI)) (ci := 9) (v := .int mn) (C := RX9) (T := TX9) (N := 17) hx hb hts inc_X9_segment_9 hown hG.1 hP 0 rfl rfl 12 (by decide) (hts (.fieldLink RX9 49 "MappingDeskModel" "many" "I") (by decide +kernel)) (fun _ h9 => h9) rfl dX9_segment_89 ?_
          refine lv_iconst (v := 1) hx hb dX9_segment_92 (by decide) ?_
          refine lv_icmp_le (tgt := 217) hx hb dX9_segment_93 (by decide) (fun c_801 => ?_) (fun c_801 => ?_)
          · rw [if_pos c_801] at hR
            have v_809 : 0 < ((1 : Nat) : Int) := by
              have k_810 : (1 : Int32).toInt = 1 := by decide
              have q_811 := i_ne c_580
              have k_812 : (4 : Int32).toInt = 4 := by decide
              have q_813 := i_eq c_768
              have k_814 : (0 : Int32).toInt = 0 := by decide
              have q_815 := i_eq c_800
              have q_816 := i_le c_801
              try generalize Int32.toInt dc = z0 at *
              try generalize Int32.toInt mn = z1 at *
              try generalize Int32.toInt (0 : Int32) = z2 at *
              try generalize Int32.toInt (1 : Int32) = z3 at *
              try generalize Int32.toInt (4 : Int32) = z4 at *
              omega
            exact loop_217 1 (0) ((vp_updL la (1 : Int32).toNatClampNeg ((la (1 : Int32).toNatClampNeg) + (nu (0 : Int32).toNatClampNeg)))) _ _ ls hR  v_809 hP hD hS (lv_sub hl [1, 2, 0] rfl)
          · rw [if_neg c_801] at hR
            refine lv_iconst (v := 1) hx hb dX9_segment_96 (by decide) ?_
            refine lv_istore_n (lv' := [(3, .int 1), (2, .int 0), (0, .ref h0), (1, .int x)]) hx hb dX9_segment_97 rfl hl (by decide) rfl (fun ls hl => ?_)
            have v_824 : 1 ≤ (1 : Int32).toInt := by
              have k_825 : (1 : Int32).toInt = 1 := by decide
              have q_826 := i_ne c_580
              have k_827 : (4 : Int32).toInt = 4 := by decide
              have q_828 := i_eq c_768
              have k_829 : (0 : Int32).toInt = 0 := by decide
              have q_830 := i_eq c_800
              have q_831 := i_nle c_801
              try generalize Int32.toInt dc = z0 at *
              try generalize Int32.toInt mn = z1 at *
              try generalize Int32.toInt (0 : Int32) = z2 at *
              try generalize Int32.toInt (1 : Int32) = z3 at *
              try generalize Int32.toInt (4 : Int32) = z4 at *
              omega
            have v_832 : (1 : Int32).toInt ≤ mn.toInt := by
              have k_833 : (1 : Int32).toInt = 1 := by decide
              have q_834 := i_ne c_580
              have k_835 : (4 : Int32).toInt = 4 := by decide
              have q_836 := i_eq c_768
              have k_837 : (0 : Int32).toInt = 0 := by decide
              have q_838 := i_eq c_800
              have q_839 := i_nle c_801
              try generalize Int32.toInt dc = z0 at *
              try generalize Int32.toInt mn = z1 at *
              try generalize Int32.toInt (0 : Int32) = z2 at *
              try generalize Int32.toInt (1 : Int32) = z3 at *
              try generalize Int32.toInt (4 : Int32) = z4 at *
              omega
            have v_840 : mn.toInt ≤ 5 := by
              have k_841 : (1 : Int32).toInt = 1 := by decide
              have q_842 := i_ne c_580
              have k_843 : (4 : Int32).toInt = 4 := by decide
              have q_844 := i_eq c_768
              have k_845 : (0 : Int32).toInt = 0 := by decide
              have q_846 := i_eq c_800
              have q_847 := i_nle c_801
              try generalize Int32.toInt dc = z0 at *
              try generalize Int32.toInt mn = z1 at *
              try generalize Int32.toInt (0 : Int32) = z2 at *
              try generalize Int32.toInt (1 : Int32) = z3 at *
              try generalize Int32.toInt (4 : Int32) = z4 at *
              omega
            have v_848 : 6 - (1 : Int32).toInt < ((7 : Nat) : Int) := by
              have k_849 : (1 : Int32).toInt = 1 := by decide
              have q_850 := i_ne c_580
              have k_851 : (4 : Int32).toInt = 4 := by decide
              have q_852 := i_eq c_768
              have k_853 : (0 : Int32).toInt = 0 := by decide
              have q_854 := i_eq c_800
              have q_855 := i_nle c_801
              try generalize Int32.toInt dc = z0 at *
              try generalize Int32.toInt mn = z1 at *
              try generalize Int32.toInt (0 : Int32) = z2 at *
              try generalize Int32.toInt (1 : Int32) = z3 at *
              try generalize Int32.toInt (4 : Int32) = z4 at *
              omega
            exact loop_98 7 (1) (0) ((vp_updL la (1 : Int32).toNatClampNeg ((la (1 : Int32).toNatClampNeg) + (nu (0 : Int32).toNatClampNeg)))) _ _ ls hR v_824 v_832 v_840 v_848 hP hD hS (lv_sub hl [2, 3, 1, 0] rfl)
        · exact absurd (by decide) c_800
      · rw [if_neg c_777] at hR
        refine lv_iconst (v := 1) hx hb dX9_segment_42 (by decide) ?_
        refine lv_goto (tgt := 47) hx hb dX9_segment_43 (by decide) ?_
        refine lv_istore_n (lv' := [(2, .int 1), (0, .ref h0), (1, .int x)]) hx hb dX9_segment_47 rfl hl (by decide) rfl (fun ls hl => ?_)
        refine lv_aload_n hx hb dX9_segment_48 rfl (lv_at hl 1 rfl) ?_
        refine va_get (D := (dC, dI)) (ci := 9) (v := .ref a6) (C := RX9) (T := TX9) (N := 17) hx hb hts inc_X9_segment_9 hown hG.1 hP 0 rfl rfl 13 (by decide) (hts (.fieldLink RX9 52 "MappingDeskModel" "latest" "[J") (by decide +kernel)) (fun _ h9 => h9) rfl dX9_segment_49 ?_
        refine lv_iconst (v := 1) hx hb dX9_segment_52 (by decide) ?_
        refine lv_dup2_11 hx hb dX9_segment_53 rfl rfl ?_
        have b_856 : vp_in 1 6 := by
          have k_857 : (1 : Int32).toInt = 1 := by decide
          have q_858 := i_ne c_580
          have k_859 : (4 : Int32).toInt = 4 := by decide
          have q_860 := i_eq c_768
          refine vin ?_ ?_
          all_goals (try generalize Int32.toInt dc = z0 at *; try generalize Int32.toInt mn = z1 at *; try generalize Int32.toInt (1 : Int32) = z2 at *; try generalize Int32.toInt (4 : Int32) = z3 at *; omega)
        refine va_lald hx hb hG.1 hP 3 3 rfl rfl b_856 dX9_segment_54 ?_
        refine lv_aload_n hx hb dX9_segment_55 rfl (lv_at hl 1 rfl) ?_
        refine va_get (D := (dC, dI)) (ci := 9) (v := .ref a5) (C := RX9) (T := TX9) (N := 17) hx hb hts inc_X9_segment_9 hown hG.1 hP 0 rfl rfl 11 (by decide) (hts (.fieldLink RX9 45 "MappingDeskModel" "nums" "[J") (by decide +kernel)) (fun _ h9 => h9) rfl dX9_segment_56 ?_
        refine lv_iconst (v := 0) hx hb dX9_segment_59 (by decide) ?_
        have b_863 : vp_in 0 6 := by
          have k_864 : (1 : Int32).toInt = 1 := by decide
          have q_865 := i_ne c_580
          have k_866 : (4 : Int32).toInt = 4 := by decide
          have q_867 := i_eq c_768
          have k_868 : (0 : Int32).toInt = 0 := by decide
          refine vin ?_ ?_
          all_goals (try generalize Int32.toInt dc = z0 at *; try generalize Int32.toInt mn = z1 at *; try generalize Int32.toInt (0 : Int32) = z2 at *; try generalize Int32.toInt (1 : Int32) = z3 at *; try generalize Int32.toInt (4 : Int32) = z4 at *; omega)
        refine va_lald hx hb hG.1 hP 2 3 rfl rfl b_863 dX9_segment_60 ?_
        refine lv_ladd hx hb dX9_segment_61 ?_
        have b_871 : vp_in 1 6 := by
          have k_872 : (1 : Int32).toInt = 1 := by decide
          have q_873 := i_ne c_580
          have k_874 : (4 : Int32).toInt = 4 := by decide
          have q_875 := i_eq c_768
          refine vin ?_ ?_
          all_goals (try generalize Int32.toInt dc = z0 at *; try generalize Int32.toInt mn = z1 at *; try generalize Int32.toInt (1 : Int32) = z2 at *; try generalize Int32.toInt (4 : Int32) = z3 at *; omega)
        refine va_last hx hb hG.1 hP hD hS 3 3 rfl rfl b_871 dX9_segment_62 (fun H locs hP hD hS => ?_)
        have hP : va_P (dC, dI) vwCl [(h0, .inr (9, [.int th, .ref a0, .ref a1, .ref a2, .int dc, .ref a3, .int tl, .ref a4, .int xl, .int fo, .int fa, .ref a5, .int mn, .ref a6, .int ft, .ref a7, .int wl])), (a2, .inl (cI, 1800, .inl dr)), (a5, .inl (cJ, 6, .inr (.inl nu))), (a6, .inl (cJ, 6, .inr (.inl (vp_updL la (1 : Int32).toNatClampNeg ((la (1 : Int32).toNatClampNeg) + (nu (0 : Int32).toNatClampNeg))))))] H := hP
        have hD : va_D A [(h0, .inr (9, [.int th, .ref a0, .ref a1, .ref a2, .int dc, .ref a3, .int tl, .ref a4, .int xl, .int fo, .int fa, .ref a5, .int mn, .ref a6, .int ft, .ref a7, .int wl])), (a2, .inl (cI, 1800, .inl dr)), (a5, .inl (cJ, 6, .inr (.inl nu))), (a6, .inl (cJ, 6, .inr (.inl (vp_updL la (1 : Int32).toNatClampNeg ((la (1 : Int32).toNatClampNeg) + (nu (0 : Int32).toNatClampNeg))))))] := hD
        refine lv_iload_n hx hb dX9_segment_63 rfl (lv_at hl 0 rfl) ?_
        refine lv_if_eq (tgt := 86) hx hb dX9_segment_64 (by decide) (fun c_878 => ?_) (fun c_878 => ?_)
        · exact absurd c_878 (by decide)
        · refine lv_aload_n hx hb dX9_segment_67 rfl (lv_at hl 1 rfl) ?_
          refine va_get (D := (dC, dI)) (ci := 9) (v := .ref a6) (C := RX9) (T := TX9) (N := 17) hx hb hts inc_X9_segment_9 hown hG.1 hP 0 rfl rfl 13 (by decide) (hts (.fieldLink RX9 52 "MappingDeskModel" "latest" "[J") (by decide +kernel)) (fun _ h9 => h9) rfl dX9_segment_68 ?_
          refine lv_iconst (v := 1) hx hb dX9_segment_71 (by decide) ?_
          have b_879 : vp_in 1 6 := by
            have k_880 : (1 : Int32).toInt = 1 := by decide
            have q_881 := i_ne c_580
            have k_882 : (4 : Int32).toInt = 4 := by decide
            have q_883 := i_eq c_768
            have k_884 : (0 : Int32).toInt = 0 := by decide
            have q_885 := i_ne c_878
            refine vin ?_ ?_
            all_goals (try generalize Int32.toInt dc = z0 at *; try generalize Int32.toInt mn = z1 at *; try generalize Int32.toInt (0 : Int32) = z2 at *; try generalize Int32.toInt (1 : Int32) = z3 at *; try generalize Int32.toInt (4 : Int32) = z4 at *; omega)
          refine va_lald hx hb hG.1 hP 3 3 rfl rfl b_879 dX9_segment_72 ?_
          refine lv_ldc2 (v := 999999) hx hb hown (hts (.constantLong RX9 75 999999) (by decide +kernel)) dX9_segment_73 ?_
          have hPc := hP.sub (ws' := []) [] rfl
          have hDc := hD.sub (ws' := []) [] (by decide) rfl
          refine vp_callSi (va_Run.run (va_runS (As := [.long ((vp_updL la (1 : Int32).toNatClampNeg ((la (1 : Int32).toNatClampNeg) + (nu (0 : Int32).toNatClampNeg))) (1 : Int32).toNatClampNeg), .long 999999]) (rest := []) ⟨hx, hb, hml, hown, hts⟩ (c_X9_within l dC dI cB cC cI cJ H.size ((vp_updL la (1 : Int32).toNatClampNeg ((la (1 : Int32).toNatClampNeg) + (nu (0 : Int32).toNatClampNeg))) (1 : Int32).toNatClampNeg) 999999 ) (va_cwS 2 hts gX9_segment_X9_within rfl rfl rfl (by decide +kernel) ⟨(Nat.le_of_ble_eq_true rfl), (Nat.le_of_ble_eq_true rfl)⟩) ⟨cP_blind, cP_pre hPc hG hDc⟩ rfl rfl hl.1 rfl (lv_room (Nat.le_of_ble_eq_true rfl)) dX9_segment_76 ⟨Nat.le_of_ble_eq_true rfl, Nat.le_of_ble_eq_true rfl⟩)) (fun r_888 hr_888 => ?_)
          rw [bnd_eq hr_888.symm] at hR
          refine lv_if_eq (tgt := 86) hx hb dX9_segment_79 (by decide) (fun c_889 => ?_) (fun c_889 => ?_)
          · rw [if_pos c_889] at hR
            refine lv_iconst (v := 0) hx hb dX9_segment_86 (by decide) ?_
            refine lv_istore_n (lv' := [(2, .int 0), (0, .ref h0), (1, .int x)]) hx hb dX9_segment_87 rfl hl (by decide) rfl (fun ls hl => ?_)
            refine lv_aload_n hx hb dX9_segment_88 rfl (lv_at hl 1 rfl) ?_
            refine va_get (D := (dC, dI)) (ci := 9) (v := .int mn) (C := RX9) (T := TX9) (N := 17) hx hb hts inc_X9_segment_9 hown hG.1 hP 0 rfl rfl 12 (by decide) (hts (.fieldLink RX9 49 "MappingDeskModel" "many" "I") (by decide +kernel)) (fun _ h9 => h9) rfl dX9_segment_89 ?_
            refine lv_iconst (v := 1) hx hb dX9_segment_92 (by decide) ?_
            refine lv_icmp_le (tgt := 217) hx hb dX9_segment_93 (by decide) (fun c_890 => ?_) (fun c_890 => ?_)
            · rw [if_pos c_890] at hR
              have v_899 : 0 < ((1 : Nat) : Int) := by
                have k_900 : (1 : Int32).toInt = 1 := by decide
                have q_901 := i_ne c_580
                have k_902 : (4 : Int32).toInt = 4 := by decide
                have q_903 := i_eq c_768
                have k_904 : (0 : Int32).toInt = 0 := by decide
                have q_905 := i_ne c_878
                have q_906 := i_eq c_889
                have q_907 := i_le c_890
                try generalize Int32.toInt r_888 = z0 at *
                try generalize Int32.toInt dc = z1 at *
                try generalize Int32.toInt mn = z2 at *
                try generalize Int32.toInt (0 : Int32) = z3 at *
                try generalize Int32.toInt (1 : Int32) = z4 at *
                try generalize Int32.toInt (4 : Int32) = z5 at *
                omega
              exact loop_217 1 (0) ((vp_updL la (1 : Int32).toNatClampNeg ((la (1 : Int32).toNatClampNeg) + (nu (0 : Int32).toNatClampNeg)))) _ _ ls hR  v_899 hP hD hS (lv_sub hl [1, 2, 0] rfl)
            · rw [if_neg c_890] at hR
              refine lv_iconst (v := 1) hx hb dX9_segment_96 (by decide) ?_
              refine lv_istore_n (lv' := [(3, .int 1), (2, .int 0), (0, .ref h0), (1, .int x)]) hx hb dX9_segment_97 rfl hl (by decide) rfl (fun ls hl => ?_)
              have v_916 : 1 ≤ (1 : Int32).toInt := by
                have k_917 : (1 : Int32).toInt = 1 := by decide
                have q_918 := i_ne c_580
                have k_919 : (4 : Int32).toInt = 4 := by decide
                have q_920 := i_eq c_768
                have k_921 : (0 : Int32).toInt = 0 := by decide
                have q_922 := i_ne c_878
                have q_923 := i_eq c_889
                have q_924 := i_nle c_890
                try generalize Int32.toInt r_888 = z0 at *
                try generalize Int32.toInt dc = z1 at *
                try generalize Int32.toInt mn = z2 at *
                try generalize Int32.toInt (0 : Int32) = z3 at *
                try generalize Int32.toInt (1 : Int32) = z4 at *
                try generalize Int32.toInt (4 : Int32) = z5 at *
                omega
              have v_925 : (1 : Int32).toInt ≤ mn.toInt := by
                have k_926 : (1 : Int32).toInt = 1 := by decide
                have q_927 := i_ne c_580
                have k_928 : (4 : Int32).toInt = 4 := by decide
                have q_929 := i_eq c_768
                have k_930 : (0 : Int32).toInt = 0 := by decide
                have q_931 := i_ne c_878
                have q_932 := i_eq c_889
                have q_933 := i_nle c_890
                try generalize Int32.toInt r_888 = z0 at *
                try generalize Int32.toInt dc = z1 at *
                try generalize Int32.toInt mn = z2 at *
                try generalize Int32.toInt (0 : Int32) = z3 at *
                try generalize Int32.toInt (1 : Int32) = z4 at *
                try generalize Int32.toInt (4 : Int32) = z5 at *
                omega
              have v_934 : mn.toInt ≤ 5 := by
                have k_935 : (1 : Int32).toInt = 1 := by decide
                have q_936 := i_ne c_580
                have k_937 : (4 : Int32).toInt = 4 := by decide
                have q_938 := i_eq c_768
                have k_939 : (0 : Int32).toInt = 0 := by decide
                have q_940 := i_ne c_878
                have q_941 := i_eq c_889
                have q_942 := i_nle c_890
                try generalize Int32.toInt r_888 = z0 at *
                try generalize Int32.toInt dc = z1 at *
                try generalize Int32.toInt mn = z2 at *
                try generalize Int32.toInt (0 : Int32) = z3 at *
                try generalize Int32.toInt (1 : Int32) = z4 at *
                try generalize Int32.toInt (4 : Int32) = z5 at *
                omega
              have v_943 : 6 - (1 : Int32).toInt < ((7 : Nat) : Int) := by
                have k_944 : (1 : Int32).toInt = 1 := by decide
                have q_945 := i_ne c_580
                have k_946 : (4 : Int32).toInt = 4 := by decide
                have q_947 := i_eq c_768
                have k_948 : (0 : Int32).toInt = 0 := by decide
                have q_949 := i_ne c_878
                have q_950 := i_eq c_889
                have q_951 := i_nle c_890
                try generalize Int32.toInt r_888 = z0 at *
                try generalize Int32.toInt dc = z1 at *
                try generalize Int32.toInt mn = z2 at *
                try generalize Int32.toInt (0 : Int32) = z3 at *
                try generalize Int32.toInt (1 : Int32) = z4 at *
                try generalize Int32.toInt (4 : Int32) = z5 at *
                omega
              exact loop_98 7 (1) (0) ((vp_updL la (1 : Int32).toNatClampNeg ((la (1 : Int32).toNatClampNeg) + (nu (0 : Int32).toNatClampNeg)))) _ _ ls hR v_916 v_925 v_934 v_943 hP hD hS (lv_sub hl [2, 3, 1, 0] rfl)
          · rw [if_neg c_889] at hR
            refine lv_iconst (v := 1) hx hb dX9_segment_82 (by decide) ?_
            refine lv_goto (tgt := 87) hx hb dX9_segment_83 (by decide) ?_
            refine lv_istore_n (lv' := [(2, .int 1), (0, .ref h0), (1, .int x)]) hx hb dX9_segment_87 rfl hl (by decide) rfl (fun ls hl => ?_)
            refine lv_aload_n hx hb dX9_segment_88 rfl (lv_at hl 1 rfl) ?_
            refine va_get (D := (dC, dI)) (ci := 9) (v := .int mn) (C := RX9) (T := TX9) (N := 17) hx hb hts inc_X9_segment_9 hown hG.1 hP 0 rfl rfl 12 (by decide) (hts (.fieldLink RX9 49 "MappingDeskModel" "many" "I") (by decide +kernel)) (fun _ h9 => h9) rfl dX9_segment_89 ?_
            refine lv_iconst (v := 1) hx hb dX9_segment_92 (by decide) ?_
            refine lv_icmp_le (tgt := 217) hx hb dX9_segment_93 (by decide) (fun c_952 => ?_) (fun c_952 => ?_)
            · rw [if_pos c_952] at hR
              have v_961 : 0 < ((1 : Nat) : Int) := by
                have k_962 : (1 : Int32).toInt = 1 := by decide
                have q_963 := i_ne c_580
                have k_964 : (4 : Int32).toInt = 4 := by decide
                have q_965 := i_eq c_768
                have k_966 : (0 : Int32).toInt = 0 := by decide
                have q_967 := i_ne c_878
                have q_968 := i_ne c_889
                have q_969 := i_le c_952
                try generalize Int32.toInt r_888 = z0 at *
                try generalize Int32.toInt dc = z1 at *
                try generalize Int32.toInt mn = z2 at *
                try generalize Int32.toInt (0 : Int32) = z3 at *
                try generalize Int32.toInt (1 : Int32) = z4 at *
                try generalize Int32.toInt (4 : Int32) = z5 at *
                omega
              exact loop_217 1 (1) ((vp_updL la (1 : Int32).toNatClampNeg ((la (1 : Int32).toNatClampNeg) + (nu (0 : Int32).toNatClampNeg)))) _ _ ls hR  v_961 hP hD hS (lv_sub hl [1, 2, 0] rfl)
            · rw [if_neg c_952] at hR
              refine lv_iconst (v := 1) hx hb dX9_segment_96 (by decide) ?_
              refine lv_istore_n (lv' := [(3, .int 1), (2, .int 1), (0, .ref h0), (1, .int x)]) hx hb dX9_segment_97 rfl hl (by decide) rfl (fun ls hl => ?_)
              have v_978 : 1 ≤ (1 : Int32).toInt := by
                have k_979 : (1 : Int32).toInt = 1 := by decide
                have q_980 := i_ne c_580
                have k_981 : (4 : Int32).toInt = 4 := by decide
                have q_982 := i_eq c_768
                have k_983 : (0 : Int32).toInt = 0 := by decide
                have q_984 := i_ne c_878
                have q_985 := i_ne c_889
                have q_986 := i_nle c_952
                try generalize Int32.toInt r_888 = z0 at *
                try generalize Int32.toInt dc = z1 at *
                try generalize Int32.toInt mn = z2 at *
                try generalize Int32.toInt (0 : Int32) = z3 at *
                try generalize Int32.toInt (1 : Int32) = z4 at *
                try generalize Int32.toInt (4 : Int32) = z5 at *
                omega
              have v_987 : (1 : Int32).toInt ≤ mn.toInt := by
                have k_988 : (1 : Int32).toInt = 1 := by decide
                have q_989 := i_ne c_580
                have k_990 : (4 : Int32).toInt = 4 := by decide
                have q_991 := i_eq c_768
                have k_992 : (0 : Int32).toInt = 0 := by decide
                have q_993 := i_ne c_878
                have q_994 := i_ne c_889
                have q_995 := i_nle c_952
                try generalize Int32.toInt r_888 = z0 at *
                try generalize Int32.toInt dc = z1 at *
                try generalize Int32.toInt mn = z2 at *
                try generalize Int32.toInt (0 : Int32) = z3 at *
                try generalize Int32.toInt (1 : Int32) = z4 at *
                try generalize Int32.toInt (4 : Int32) = z5 at *
                omega
              have v_996 : mn.toInt ≤ 5 := by
                have k_997 : (1 : Int32).toInt = 1 := by decide
                have q_998 := i_ne c_580
                have k_999 : (4 : Int32).toInt = 4 := by decide
                have q_1000 := i_eq c_768
                have k_1001 : (0 : Int32).toInt = 0 := by decide
                have q_1002 := i_ne c_878
                have q_1003 := i_ne c_889
                have q_1004 := i_nle c_952
                try generalize Int32.toInt r_888 = z0 at *
                try generalize Int32.toInt dc = z1 at *
                try generalize Int32.toInt mn = z2 at *
                try generalize Int32.toInt (0 : Int32) = z3 at *
                try generalize Int32.toInt (1 : Int32) = z4 at *
                try generalize Int32.toInt (4 : Int32) = z5 at *
                omega
              have v_1005 : 6 - (1 : Int32).toInt < ((7 : Nat) : Int) := by
                have k_1006 : (1 : Int32).toInt = 1 := by decide
                have q_1007 := i_ne c_580
                have k_1008 : (4 : Int32).toInt = 4 := by decide
                have q_1009 := i_eq c_768
                have k_1010 : (0 : Int32).toInt = 0 := by decide
                have q_1011 := i_ne c_878
                have q_1012 := i_ne c_889
                have q_1013 := i_nle c_952
                try generalize Int32.toInt r_888 = z0 at *
                try generalize Int32.toInt dc = z1 at *
                try generalize Int32.toInt mn = z2 at *
                try generalize Int32.toInt (0 : Int32) = z3 at *
                try generalize Int32.toInt (1 : Int32) = z4 at *
                try generalize Int32.toInt (4 : Int32) = z5 at *
                omega
              exact loop_98 7 (1) (1) ((vp_updL la (1 : Int32).toNatClampNeg ((la (1 : Int32).toNatClampNeg) + (nu (0 : Int32).toNatClampNeg)))) _ _ ls hR v_978 v_987 v_996 v_1005 hP hD hS (lv_sub hl [2, 3, 1, 0] rfl)
    · rw [if_neg c_768] at hR
      refine lv_aload_n hx hb dX9_segment_16 rfl (lv_at hl 0 rfl) ?_
      refine va_get (D := (dC, dI)) (ci := 9) (v := .int mn) (C := RX9) (T := TX9) (N := 17) hx hb hts inc_X9_segment_9 hown hG.1 hP 0 rfl rfl 12 (by decide) (hts (.fieldLink RX9 49 "MappingDeskModel" "many" "I") (by decide +kernel)) (fun _ h9 => h9) rfl dX9_segment_17 ?_
      refine lv_iconst (v := 5) hx hb dX9_segment_20 (by decide) ?_
      refine lv_icmp_eq (tgt := 31) hx hb dX9_segment_21 (by decide) (fun c_1014 => ?_) (fun c_1014 => ?_)
      · rw [if_pos c_1014] at hR
        refine lv_aload_n hx hb dX9_segment_31 rfl (lv_at hl 0 rfl) ?_
        refine va_get (D := (dC, dI)) (ci := 9) (v := .ref a5) (C := RX9) (T := TX9) (N := 17) hx hb hts inc_X9_segment_9 hown hG.1 hP 0 rfl rfl 11 (by decide) (hts (.fieldLink RX9 45 "MappingDeskModel" "nums" "[J") (by decide +kernel)) (fun _ h9 => h9) rfl dX9_segment_32 ?_
        refine lv_iconst (v := 0) hx hb dX9_segment_35 (by decide) ?_
        have b_1015 : vp_in 0 6 := by
          have k_1016 : (1 : Int32).toInt = 1 := by decide
          have q_1017 := i_ne c_580
          have k_1018 : (4 : Int32).toInt = 4 := by decide
          have q_1019 := i_ne c_768
          have k_1020 : (5 : Int32).toInt = 5 := by decide
          have q_1021 := i_eq c_1014
          have k_1022 : (0 : Int32).toInt = 0 := by decide
          refine vin ?_ ?_
          all_goals (try generalize Int32.toInt dc = z0 at *; try generalize Int32.toInt mn = z1 at *; try generalize Int32.toInt (0 : Int32) = z2 at *; try generalize Int32.toInt (1 : Int32) = z3 at *; try generalize Int32.toInt (4 : Int32) = z4 at *; try generalize Int32.toInt (5 : Int32) = z5 at *; omega)
        refine va_lald hx hb hG.1 hP 2 3 rfl rfl b_1015 dX9_segment_36 ?_
        refine lv_lconst (v := 0) hx hb dX9_segment_37 (by decide) ?_
        refine W.lcmp hx hb dX9_segment_38 ?_
        refine lv_if_lt (tgt := 46) hx hb dX9_segment_39 (by decide) (fun c_1025 => ?_) (fun c_1025 => ?_)
        · rw [if_pos c_1025] at hR
          refine lv_iconst (v := 0) hx hb dX9_segment_46 (by decide) ?_
          refine lv_istore_n (lv' := [(2, .int 0), (0, .ref h0), (1, .int x)]) hx hb dX9_segment_47 rfl hl (by decide) rfl (fun ls hl => ?_)
          refine lv_aload_n hx hb dX9_segment_48 rfl (lv_at hl 1 rfl) ?_
          refine va_get (D := (dC, dI)) (ci := 9) (v := .ref a6) (C := RX9) (T := TX9) (N := 17) hx hb hts inc_X9_segment_9 hown hG.1 hP 0 rfl rfl 13 (by decide) (hts (.fieldLink RX9 52 "MappingDeskModel" "latest" "[J") (by decide +kernel)) (fun _ h9 => h9) rfl dX9_segment_49 ?_
          refine lv_iconst (v := 1) hx hb dX9_segment_52 (by decide) ?_
          refine lv_dup2_11 hx hb dX9_segment_53 rfl rfl ?_
          have b_1026 : vp_in 1 6 := by
            have k_1027 : (1 : Int32).toInt = 1 := by decide
            have q_1028 := i_ne c_580
            have k_1029 : (4 : Int32).toInt = 4 := by decide
            have q_1030 := i_ne c_768
            have k_1031 : (5 : Int32).toInt = 5 := by decide
            have q_1032 := i_eq c_1014
            refine vin ?_ ?_
            all_goals (try generalize Int32.toInt dc = z0 at *; try generalize Int32.toInt mn = z1 at *; try generalize Int32.toInt (1 : Int32) = z2 at *; try generalize Int32.toInt (4 : Int32) = z3 at *; try generalize Int32.toInt (5 : Int32) = z4 at *; omega)
          refine va_lald hx hb hG.1 hP 3 3 rfl rfl b_1026 dX9_segment_54 ?_
          refine lv_aload_n hx hb dX9_segment_55 rfl (lv_at hl 1 rfl) ?_
          refine va_get (D := (dC, dI)) (ci := 9) (v := .ref a5) (C := RX9) (T := TX9) (N := 17) hx hb hts inc_X9_segment_9 hown hG.1 hP 0 rfl rfl 11 (by decide) (hts (.fieldLink RX9 45 "MappingDeskModel" "nums" "[J") (by decide +kernel)) (fun _ h9 => h9) rfl dX9_segment_56 ?_
          refine lv_iconst (v := 0) hx hb dX9_segment_59 (by decide) ?_
          have b_1035 : vp_in 0 6 := by
            have k_1036 : (1 : Int32).toInt = 1 := by decide
            have q_1037 := i_ne c_580
            have k_1038 : (4 : Int32).toInt = 4 := by decide
            have q_1039 := i_ne c_768
            have k_1040 : (5 : Int32).toInt = 5 := by decide
            have q_1041 := i_eq c_1014
            have k_1042 : (0 : Int32).toInt = 0 := by decide
            refine vin ?_ ?_
            all_goals (try generalize Int32.toInt dc = z0 at *; try generalize Int32.toInt mn = z1 at *; try generalize Int32.toInt (0 : Int32) = z2 at *; try generalize Int32.toInt (1 : Int32) = z3 at *; try generalize Int32.toInt (4 : Int32) = z4 at *; try generalize Int32.toInt (5 : Int32) = z5 at *; omega)
          refine va_lald hx hb hG.1 hP 2 3 rfl rfl b_1035 dX9_segment_60 ?_
          refine lv_ladd hx hb dX9_segment_61 ?_
          have b_1045 : vp_in 1 6 := by
            have k_1046 : (1 : Int32).toInt = 1 := by decide
            have q_1047 := i_ne c_580
            have k_1048 : (4 : Int32).toInt = 4 := by decide
            have q_1049 := i_ne c_768
            have k_1050 : (5 : Int32).toInt = 5 := by decide
            have q_1051 := i_eq c_1014
            refine vin ?_ ?_
            all_goals (try generalize Int32.toInt dc = z0 at *; try generalize Int32.toInt mn = z1 at *; try generalize Int32.toInt (1 : Int32) = z2 at *; try generalize Int32.toInt (4 : Int32) = z3 at *; try generalize Int32.toInt (5 : Int32) = z4 at *; omega)
          refine va_last hx hb hG.1 hP hD hS 3 3 rfl rfl b_1045 dX9_segment_62 (fun H locs hP hD hS => ?_)
          have hP : va_P (dC, dI) vwCl [(h0, .inr (9, [.int th, .ref a0, .ref a1, .ref a2, .int dc, .ref a3, .int tl, .ref a4, .int xl, .int fo, .int fa, .ref a5, .int mn, .ref a6, .int ft, .ref a7, .int wl])), (a2, .inl (cI, 1800, .inl dr)), (a5, .inl (cJ, 6, .inr (.inl nu))), (a6, .inl (cJ, 6, .inr (.inl (vp_updL la (1 : Int32).toNatClampNeg ((la (1 : Int32).toNatClampNeg) + (nu (0 : Int32).toNatClampNeg))))))] H := hP
          have hD : va_D A [(h0, .inr (9, [.int th, .ref a0, .ref a1, .ref a2, .int dc, .ref a3, .int tl, .ref a4, .int xl, .int fo, .int fa, .ref a5, .int mn, .ref a6, .int ft, .ref a7, .int wl])), (a2, .inl (cI, 1800, .inl dr)), (a5, .inl (cJ, 6, .inr (.inl nu))), (a6, .inl (cJ, 6, .inr (.inl (vp_updL la (1 : Int32).toNatClampNeg ((la (1 : Int32).toNatClampNeg) + (nu (0 : Int32).toNatClampNeg))))))] := hD
          refine lv_iload_n hx hb dX9_segment_63 rfl (lv_at hl 0 rfl) ?_
          refine lv_if_eq (tgt := 86) hx hb dX9_segment_64 (by decide) (fun c_1054 => ?_) (fun c_1054 => ?_)
          · refine lv_iconst (v := 0) hx hb dX9_segment_86 (by decide) ?_
            refine lv_istore_n (lv' := [(2, .int 0), (0, .ref h0), (1, .int x)]) hx hb dX9_segment_87 rfl hl (by decide) rfl (fun ls hl => ?_)
            refine lv_aload_n hx hb dX9_segment_88 rfl (lv_at hl 1 rfl) ?_
            refine va_get (D := (dC, dI)) (ci := 9) (v := .int mn) (C := RX9) (T := TX9) (N := 17) hx hb hts inc_X9_segment_9 hown hG.1 hP 0 rfl rfl 12 (by decide) (hts (.fieldLink RX9 49 "MappingDeskModel" "many" "I") (by decide +kernel)) (fun _ h9 => h9) rfl dX9_segment_89 ?_
            refine lv_iconst (v := 1) hx hb dX9_segment_92 (by decide) ?_
            refine lv_icmp_le (tgt := 217) hx hb dX9_segment_93 (by decide) (fun c_1055 => ?_) (fun c_1055 => ?_)
            · rw [if_pos c_1055] at hR
              have v_1065 : 0 < ((1 : Nat) : Int) := by
                have k_1066 : (1 : Int32).toInt = 1 := by decide
                have q_1067 := i_ne c_580
                have k_1068 : (4 : Int32).toInt = 4 := by decide
                have q_1069 := i_ne c_768
                have k_1070 : (5 : Int32).toInt = 5 := by decide
                have q_1071 := i_eq c_1014
                have k_1072 : (0 : Int32).toInt = 0 := by decide
                have q_1073 := i_eq c_1054
                have q_1074 := i_le c_1055
                try generalize Int32.toInt dc = z0 at *
                try generalize Int32.toInt mn = z1 at *
                try generalize Int32.toInt (0 : Int32) = z2 at *
                try generalize Int32.toInt (1 : Int32) = z3 at *
                try generalize Int32.toInt (4 : Int32) = z4 at *
                try generalize Int32.toInt (5 : Int32) = z5 at *
                omega
              exact loop_217 1 (0) ((vp_updL la (1 : Int32).toNatClampNeg ((la (1 : Int32).toNatClampNeg) + (nu (0 : Int32).toNatClampNeg)))) _ _ ls hR  v_1065 hP hD hS (lv_sub hl [1, 2, 0] rfl)
            · rw [if_neg c_1055] at hR
              refine lv_iconst (v := 1) hx hb dX9_segment_96 (by decide) ?_
              refine lv_istore_n (lv' := [(3, .int 1), (2, .int 0), (0, .ref h0), (1, .int x)]) hx hb dX9_segment_97 rfl hl (by decide) rfl (fun ls hl => ?_)
              have v_1084 : 1 ≤ (1 : Int32).toInt := by
                have k_1085 : (1 : Int32).toInt = 1 := by decide
                have q_1086 := i_ne c_580
                have k_1087 : (4 : Int32).toInt = 4 := by decide
                have q_1088 := i_ne c_768
                have k_1089 : (5 : Int32).toInt = 5 := by decide
                have q_1090 := i_eq c_1014
                have k_1091 : (0 : Int32).toInt = 0 := by decide
                have q_1092 := i_eq c_1054
                have q_1093 := i_nle c_1055
                try generalize Int32.toInt dc = z0 at *
                try generalize Int32.toInt mn = z1 at *
                try generalize Int32.toInt (0 : Int32) = z2 at *
                try generalize Int32.toInt (1 : Int32) = z3 at *
                try generalize Int32.toInt (4 : Int32) = z4 at *
                try generalize Int32.toInt (5 : Int32) = z5 at *
                omega
              have v_1094 : (1 : Int32).toInt ≤ mn.toInt := by
                have k_1095 : (1 : Int32).toInt = 1 := by decide
                have q_1096 := i_ne c_580
                have k_1097 : (4 : Int32).toInt = 4 := by decide
                have q_1098 := i_ne c_768
                have k_1099 : (5 : Int32).toInt = 5 := by decide
                have q_1100 := i_eq c_1014
                have k_1101 : (0 : Int32).toInt = 0 := by decide
                have q_1102 := i_eq c_1054
                have q_1103 := i_nle c_1055
                try generalize Int32.toInt dc = z0 at *
                try generalize Int32.toInt mn = z1 at *
                try generalize Int32.toInt (0 : Int32) = z2 at *
                try generalize Int32.toInt (1 : Int32) = z3 at *
                try generalize Int32.toInt (4 : Int32) = z4 at *
                try generalize Int32.toInt (5 : Int32) = z5 at *
                omega
              have v_1104 : mn.toInt ≤ 5 := by
                have k_1105 : (1 : Int32).toInt = 1 := by decide
                have q_1106 := i_ne c_580
                have k_1107 : (4 : Int32).toInt = 4 := by decide
                have q_1108 := i_ne c_768
                have k_1109 : (5 : Int32).toInt = 5 := by decide
                have q_1110 := i_eq c_1014
                have k_1111 : (0 : Int32).toInt = 0 := by decide
                have q_1112 := i_eq c_1054
                have q_1113 := i_nle c_1055
                try generalize Int32.toInt dc = z0 at *
                try generalize Int32.toInt mn = z1 at *
                try generalize Int32.toInt (0 : Int32) = z2 at *
                try generalize Int32.toInt (1 : Int32) = z3 at *
                try generalize Int32.toInt (4 : Int32) = z4 at *
                try generalize Int32.toInt (5 : Int32) = z5 at *
                omega
              have v_1114 : 6 - (1 : Int32).toInt < ((7 : Nat) : Int) := by
                have k_1115 : (1 : Int32).toInt = 1 := by decide
                have q_1116 := i_ne c_580
                have k_1117 : (4 : Int32).toInt = 4 := by decide
                have q_1118 := i_ne c_768
                have k_1119 : (5 : Int32).toInt = 5 := by decide
                have q_1120 := i_eq c_1014
                have k_1121 : (0 : Int32).toInt = 0 := by decide
                have q_1122 := i_eq c_1054
                have q_1123 := i_nle c_1055
                try generalize Int32.toInt dc = z0 at *
                try generalize Int32.toInt mn = z1 at *
                try generalize Int32.toInt (0 : Int32) = z2 at *
                try generalize Int32.toInt (1 : Int32) = z3 at *
                try generalize Int32.toInt (4 : Int32) = z4 at *
                try generalize Int32.toInt (5 : Int32) = z5 at *
                omega
              exact loop_98 7 (1) (0) ((vp_updL la (1 : Int32).toNatClampNeg ((la (1 : Int32).toNatClampNeg) + (nu (0 : Int32).toNatClampNeg)))) _ _ ls hR v_1084 v_1094 v_1104 v_1114 hP hD hS (lv_sub hl [2, 3, 1, 0] rfl)
          · exact absurd (by decide) c_1054
        · rw [if_neg c_1025] at hR
          refine lv_iconst (v := 1) hx hb dX9_segment_42 (by decide) ?_
          refine lv_goto (tgt := 47) hx hb dX9_segment_43 (by decide) ?_
          refine lv_istore_n (lv' := [(2, .int 1), (0, .ref h0), (1, .int x)]) hx hb dX9_segment_47 rfl hl (by decide) rfl (fun ls hl => ?_)
          refine lv_aload_n hx hb dX9_segment_48 rfl (lv_at hl 1 rfl) ?_
          refine va_get (D := (dC, dI)) (ci := 9) (v := .ref a6) (C := RX9) (T := TX9) (N := 17) hx hb hts inc_X9_segment_9 hown hG.1 hP 0 rfl rfl 13 (by decide) (hts (.fieldLink RX9 52 "MappingDeskModel" "latest" "[J") (by decide +kernel)) (fun _ h9 => h9) rfl dX9_segment_49 ?_
          refine lv_iconst (v := 1) hx hb dX9_segment_52 (by decide) ?_
          refine lv_dup2_11 hx hb dX9_segment_53 rfl rfl ?_
          have b_1124 : vp_in 1 6 := by
            have k_1125 : (1 : Int32).toInt = 1 := by decide
            have q_1126 := i_ne c_580
            have k_1127 : (4 : Int32).toInt = 4 := by decide
            have q_1128 := i_ne c_768
            have k_1129 : (5 : Int32).toInt = 5 := by decide
            have q_1130 := i_eq c_1014
            refine vin ?_ ?_
            all_goals (try generalize Int32.toInt dc = z0 at *; try generalize Int32.toInt mn = z1 at *; try generalize Int32.toInt (1 : Int32) = z2 at *; try generalize Int32.toInt (4 : Int32) = z3 at *; try generalize Int32.toInt (5 : Int32) = z4 at *; omega)
          refine va_lald hx hb hG.1 hP 3 3 rfl rfl b_1124 dX9_segment_54 ?_
          refine lv_aload_n hx hb dX9_segment_55 rfl (lv_at hl 1 rfl) ?_
          refine va_get (D := (dC, dI)) (ci := 9) (v := .ref a5) (C := RX9) (T := TX9) (N := 17) hx hb hts inc_X9_segment_9 hown hG.1 hP 0 rfl rfl 11 (by decide) (hts (.fieldLink RX9 45 "MappingDeskModel" "nums" "[J") (by decide +kernel)) (fun _ h9 => h9) rfl dX9_segment_56 ?_
          refine lv_iconst (v := 0) hx hb dX9_segment_59 (by decide) ?_
          have b_1133 : vp_in 0 6 := by
            have k_1134 : (1 : Int32).toInt = 1 := by decide
            have q_1135 := i_ne c_580
            have k_1136 : (4 : Int32).toInt = 4 := by decide
            have q_1137 := i_ne c_768
            have k_1138 : (5 : Int32).toInt = 5 := by decide
            have q_1139 := i_eq c_1014
            have k_1140 : (0 : Int32).toInt = 0 := by decide
            refine vin ?_ ?_
            all_goals (try generalize Int32.toInt dc = z0 at *; try generalize Int32.toInt mn = z1 at *; try generalize Int32.toInt (0 : Int32) = z2 at *; try generalize Int32.toInt (1 : Int32) = z3 at *; try generalize Int32.toInt (4 : Int32) = z4 at *; try generalize Int32.toInt (5 : Int32) = z5 at *; omega)
          refine va_lald hx hb hG.1 hP 2 3 rfl rfl b_1133 dX9_segment_60 ?_
          refine lv_ladd hx hb dX9_segment_61 ?_
          have b_1143 : vp_in 1 6 := by
            have k_1144 : (1 : Int32).toInt = 1 := by decide
            have q_1145 := i_ne c_580
            have k_1146 : (4 : Int32).toInt = 4 := by decide
            have q_1147 := i_ne c_768
            have k_1148 : (5 : Int32).toInt = 5 := by decide
            have q_1149 := i_eq c_1014
            refine vin ?_ ?_
            all_goals (try generalize Int32.toInt dc = z0 at *; try generalize Int32.toInt mn = z1 at *; try generalize Int32.toInt (1 : Int32) = z2 at *; try generalize Int32.toInt (4 : Int32) = z3 at *; try generalize Int32.toInt (5 : Int32) = z4 at *; omega)
          refine va_last hx hb hG.1 hP hD hS 3 3 rfl rfl b_1143 dX9_segment_62 (fun H locs hP hD hS => ?_)
          have hP : va_P (dC, dI) vwCl [(h0, .inr (9, [.int th, .ref a0, .ref a1, .ref a2, .int dc, .ref a3, .int tl, .ref a4, .int xl, .int fo, .int fa, .ref a5, .int mn, .ref a6, .int ft, .ref a7, .int wl])), (a2, .inl (cI, 1800, .inl dr)), (a5, .inl (cJ, 6, .inr (.inl nu))), (a6, .inl (cJ, 6, .inr (.inl (vp_updL la (1 : Int32).toNatClampNeg ((la (1 : Int32).toNatClampNeg) + (nu (0 : Int32).toNatClampNeg))))))] H := hP
          have hD : va_D A [(h0, .inr (9, [.int th, .ref a0, .ref a1, .ref a2, .int dc, .ref a3, .int tl, .ref a4, .int xl, .int fo, .int fa, .ref a5, .int mn, .ref a6, .int ft, .ref a7, .int wl])), (a2, .inl (cI, 1800, .inl dr)), (a5, .inl (cJ, 6, .inr (.inl nu))), (a6, .inl (cJ, 6, .inr (.inl (vp_updL la (1 : Int32).toNatClampNeg ((la (1 : Int32).toNatClampNeg) + (nu (0 : Int32).toNatClampNeg))))))] := hD
          refine lv_iload_n hx hb dX9_segment_63 rfl (lv_at hl 0 rfl) ?_
          refine lv_if_eq (tgt := 86) hx hb dX9_segment_64 (by decide) (fun c_1152 => ?_) (fun c_1152 => ?_)
          · exact absurd c_1152 (by decide)
          · refine lv_aload_n hx hb dX9_segment_67 rfl (lv_at hl 1 rfl) ?_
            refine va_get (D := (dC, dI)) (ci := 9) (v := .ref a6) (C := RX9) (T := TX9) (N := 17) hx hb hts inc_X9_segment_9 hown hG.1 hP 0 rfl rfl 13 (by decide) (hts (.fieldLink RX9 52 "MappingDeskModel" "latest" "[J") (by decide +kernel)) (fun _ h9 => h9) rfl dX9_segment_68 ?_
            refine lv_iconst (v := 1) hx hb dX9_segment_71 (by decide) ?_
            have b_1153 : vp_in 1 6 := by
              have k_1154 : (1 : Int32).toInt = 1 := by decide
              have q_1155 := i_ne c_580
              have k_1156 : (4 : Int32).toInt = 4 := by decide
              have q_1157 := i_ne c_768
              have k_1158 : (5 : Int32).toInt = 5 := by decide
              have q_1159 := i_eq c_1014
              have k_1160 : (0 : Int32).toInt = 0 := by decide
              have q_1161 := i_ne c_1152
              refine vin ?_ ?_
              all_goals (try generalize Int32.toInt dc = z0 at *; try generalize Int32.toInt mn = z1 at *; try generalize Int32.toInt (0 : Int32) = z2 at *; try generalize Int32.toInt (1 : Int32) = z3 at *; try generalize Int32.toInt (4 : Int32) = z4 at *; try generalize Int32.toInt (5 : Int32) = z5 at *; omega)
            refine va_lald hx hb hG.1 hP 3 3 rfl rfl b_1153 dX9_segment_72 ?_
            refine lv_ldc2 (v := 999999) hx hb hown (hts (.constantLong RX9 75 999999) (by decide +kernel)) dX9_segment_73 ?_
            have hPc := hP.sub (ws' := []) [] rfl
            have hDc := hD.sub (ws' := []) [] (by decide) rfl
            refine vp_callSi (va_Run.run (va_runS (As := [.long ((vp_updL la (1 : Int32).toNatClampNeg ((la (1 : Int32).toNatClampNeg) + (nu (0 : Int32).toNatClampNeg))) (1 : Int32).toNatClampNeg), .long 999999]) (rest := []) ⟨hx, hb, hml, hown, hts⟩ (c_X9_within l dC dI cB cC cI cJ H.size ((vp_updL la (1 : Int32).toNatClampNeg ((la (1 : Int32).toNatClampNeg) + (nu (0 : Int32).toNatClampNeg))) (1 : Int32).toNatClampNeg) 999999 ) (va_cwS 2 hts gX9_segment_X9_within rfl rfl rfl (by decide +kernel) ⟨(Nat.le_of_ble_eq_true rfl), (Nat.le_of_ble_eq_true rfl)⟩) ⟨cP_blind, cP_pre hPc hG hDc⟩ rfl rfl hl.1 rfl (lv_room (Nat.le_of_ble_eq_true rfl)) dX9_segment_76 ⟨Nat.le_of_ble_eq_true rfl, Nat.le_of_ble_eq_true rfl⟩)) (fun r_1164 hr_1164 => ?_)
            rw [bnd_eq hr_1164.symm] at hR
            refine lv_if_eq (tgt := 86) hx hb dX9_segment_79 (by decide) (fun c_1165 => ?_) (fun c_1165 => ?_)
            · rw [if_pos c_1165] at hR
              refine lv_iconst (v := 0) hx hb dX9_segment_86 (by decide) ?_
              refine lv_istore_n (lv' := [(2, .int 0), (0, .ref h0), (1, .int x)]) hx hb dX9_segment_87 rfl hl (by decide) rfl (fun ls hl => ?_)
              refine lv_aload_n hx hb dX9_segment_88 rfl (lv_at hl 1 rfl) ?_
              refine va_get (D := (dC, dI)) (ci := 9) (v := .int mn) (C := RX9) (T := TX9) (N := 17) hx hb hts inc_X9_segment_9 hown hG.1 hP 0 rfl rfl 12 (by decide) (hts (.fieldLink RX9 49 "MappingDeskModel" "many" "I") (by decide +kernel)) (fun _ h9 => h9) rfl dX9_segment_89 ?_
              refine lv_iconst (v := 1) hx hb dX9_segment_92 (by decide) ?_
              refine lv_icmp_le (tgt := 217) hx hb dX9_segment_93 (by decide) (fun c_1166 => ?_) (fun c_1166 => ?_)
              · rw [if_pos c_1166] at hR
                have v_1177 : 0 < ((1 : Nat) : Int) := by
                  have k_1178 : (1 : Int32).toInt = 1 := by decide
                  have q_1179 := i_ne c_580
                  have k_1180 : (4 : Int32).toInt = 4 := by decide
                  have q_1181 := i_ne c_768
                  have k_1182 : (5 : Int32).toInt = 5 := by decide
                  have q_1183 := i_eq c_1014
                  have k_1184 : (0 : Int32).toInt = 0 := by decide
                  have q_1185 := i_ne c_1152
                  have q_1186 := i_eq c_1165
                  have q_1187 := i_le c_1166
                  try generalize Int32.toInt r_1164 = z0 at *
                  try generalize Int32.toInt dc = z1 at *
                  try generalize Int32.toInt mn = z2 at *
                  try generalize Int32.toInt (0 : Int32) = z3 at *
                  try generalize Int32.toInt (1 : Int32) = z4 at *
                  try generalize Int32.toInt (4 : Int32) = z5 at *
                  try generalize Int32.toInt (5 : Int32) = z6 at *
                  omega
                exact loop_217 1 (0) ((vp_updL la (1 : Int32).toNatClampNeg ((la (1 : Int32).toNatClampNeg) + (nu (0 : Int32).toNatClampNeg)))) _ _ ls hR  v_1177 hP hD hS (lv_sub hl [1, 2, 0] rfl)
              · rw [if_neg c_1166] at hR
                refine lv_iconst (v := 1) hx hb dX9_segment_96 (by decide) ?_
                refine lv_istore_n (lv' := [(3, .int 1), (2, .int 0), (0, .ref h0), (1, .int x)]) hx hb dX9_segment_97 rfl hl (by decide) rfl (fun ls hl => ?_)
                have v_1198 : 1 ≤ (1 : Int32).toInt := by
                  have k_1199 : (1 : Int32).toInt = 1 := by decide
                  have q_1200 := i_ne c_580
                  have k_1201 : (4 : Int32).toInt = 4 := by decide
                  have q_1202 := i_ne c_768
                  have k_1203 : (5 : Int32).toInt = 5 := by decide
                  have q_1204 := i_eq c_1014
                  have k_1205 : (0 : Int32).toInt = 0 := by decide
                  have q_1206 := i_ne c_1152
                  have q_1207 := i_eq c_1165
                  have q_1208 := i_nle c_1166
                  try generalize Int32.toInt r_1164 = z0 at *
                  try generalize Int32.toInt dc = z1 at *
                  try generalize Int32.toInt mn = z2 at *
                  try generalize Int32.toInt (0 : Int32) = z3 at *
                  try generalize Int32.toInt (1 : Int32) = z4 at *
                  try generalize Int32.toInt (4 : Int32) = z5 at *
                  try generalize Int32.toInt (5 : Int32) = z6 at *
                  omega
                have v_1209 : (1 : Int32).toInt ≤ mn.toInt := by
                  have k_1210 : (1 : Int32).toInt = 1 := by decide
                  have q_1211 := i_ne c_580
                  have k_1212 : (4 : Int32).toInt = 4 := by decide
                  have q_1213 := i_ne c_768
                  have k_1214 : (5 : Int32).toInt = 5 := by decide
                  have q_1215 := i_eq c_1014
                  have k_1216 : (0 : Int32).toInt = 0 := by decide
                  have q_1217 := i_ne c_1152
                  have q_1218 := i_eq c_1165
                  have q_1219 := i_nle c_1166
                  try generalize Int32.toInt r_1164 = z0 at *
                  try generalize Int32.toInt dc = z1 at *
                  try generalize Int32.toInt mn = z2 at *
                  try generalize Int32.toInt (0 : Int32) = z3 at *
                  try generalize Int32.toInt (1 : Int32) = z4 at *
                  try generalize Int32.toInt (4 : Int32) = z5 at *
                  try generalize Int32.toInt (5 : Int32) = z6 at *
                  omega
                have v_1220 : mn.toInt ≤ 5 := by
                  have k_1221 : (1 : Int32).toInt = 1 := by decide
                  have q_1222 := i_ne c_580
                  have k_1223 : (4 : Int32).toInt = 4 := by decide
                  have q_1224 := i_ne c_768
                  have k_1225 : (5 : Int32).toInt = 5 := by decide
                  have q_1226 := i_eq c_1014
                  have k_1227 : (0 : Int32).toInt = 0 := by decide
                  have q_1228 := i_ne c_1152
                  have q_1229 := i_eq c_1165
                  have q_1230 := i_nle c_1166
                  try generalize Int32.toInt r_1164 = z0 at *
                  try generalize Int32.toInt dc = z1 at *
                  try generalize Int32.toInt mn = z2 at *
                  try generalize Int32.toInt (0 : Int32) = z3 at *
                  try generalize Int32.toInt (1 : Int32) = z4 at *
                  try generalize Int32.toInt (4 : Int32) = z5 at *
                  try generalize Int32.toInt (5 : Int32) = z6 at *
                  omega
                have v_1231 : 6 - (1 : Int32).toInt < ((7 : Nat) : Int) := by
                  have k_1232 : (1 : Int32).toInt = 1 := by decide
                  have q_1233 := i_ne c_580
                  have k_1234 : (4 : Int32).toInt = 4 := by decide
                  have q_1235 := i_ne c_768
                  have k_1236 : (5 : Int32).toInt = 5 := by decide
                  have q_1237 := i_eq c_1014
                  have k_1238 : (0 : Int32).toInt = 0 := by decide
                  have q_1239 := i_ne c_1152
                  have q_1240 := i_eq c_1165
                  have q_1241 := i_nle c_1166
                  try generalize Int32.toInt r_1164 = z0 at *
                  try generalize Int32.toInt dc = z1 at *
                  try generalize Int32.toInt mn = z2 at *
                  try generalize Int32.toInt (0 : Int32) = z3 at *
                  try generalize Int32.toInt (1 : Int32) = z4 at *
                  try generalize Int32.toInt (4 : Int32) = z5 at *
                  try generalize Int32.toInt (5 : Int32) = z6 at *
                  omega
                exact loop_98 7 (1) (0) ((vp_updL la (1 : Int32).toNatClampNeg ((la (1 : Int32).toNatClampNeg) + (nu (0 : Int32).toNatClampNeg)))) _ _ ls hR v_1198 v_1209 v_1220 v_1231 hP hD hS (lv_sub hl [2, 3, 1, 0] rfl)
            · rw [if_neg c_1165] at hR
              refine lv_iconst (v := 1) hx hb dX9_segment_82 (by decide) ?_
              refine lv_goto (tgt := 87) hx hb dX9_segment_83 (by decide) ?_
              refine lv_istore_n (lv' := [(2, .int 1), (0, .ref h0), (1, .int x)]) hx hb dX9_segment_87 rfl hl (by decide) rfl (fun ls hl => ?_)
              refine lv_aload_n hx hb dX9_segment_88 rfl (lv_at hl 1 rfl) ?_
              refine va_get (D := (dC, dI)) (ci := 9) (v := .int mn) (C := RX9) (T := TX9) (N := 17) hx hb hts inc_X9_segment_9 hown hG.1 hP 0 rfl rfl 12 (by decide) (hts (.fieldLink RX9 49 "MappingDeskModel" "many" "I") (by decide +kernel)) (fun _ h9 => h9) rfl dX9_segment_89 ?_
              refine lv_iconst (v := 1) hx hb dX9_segment_92 (by decide) ?_
              refine lv_icmp_le (tgt := 217) hx hb dX9_segment_93 (by decide) (fun c_1242 => ?_) (fun c_1242 => ?_)
              · rw [if_pos c_1242] at hR
                have v_1253 : 0 < ((1 : Nat) : Int) := by
                  have k_1254 : (1 : Int32).toInt = 1 := by decide
                  have q_1255 := i_ne c_580
                  have k_1256 : (4 : Int32).toInt = 4 := by decide
                  have q_1257 := i_ne c_768
                  have k_1258 : (5 : Int32).toInt = 5 := by decide
                  have q_1259 := i_eq c_1014
                  have k_1260 : (0 : Int32).toInt = 0 := by decide
                  have q_1261 := i_ne c_1152
                  have q_1262 := i_ne c_1165
                  have q_1263 := i_le c_1242
                  try generalize Int32.toInt r_1164 = z0 at *
                  try generalize Int32.toInt dc = z1 at *
                  try generalize Int32.toInt mn = z2 at *
                  try generalize Int32.toInt (0 : Int32) = z3 at *
                  try generalize Int32.toInt (1 : Int32) = z4 at *
                  try generalize Int32.toInt (4 : Int32) = z5 at *
                  try generalize Int32.toInt (5 : Int32) = z6 at *
                  omega
                exact loop_217 1 (1) ((vp_updL la (1 : Int32).toNatClampNeg ((la (1 : Int32).toNatClampNeg) + (nu (0 : Int32).toNatClampNeg)))) _ _ ls hR  v_1253 hP hD hS (lv_sub hl [1, 2, 0] rfl)
              · rw [if_neg c_1242] at hR
                refine lv_iconst (v := 1) hx hb dX9_segment_96 (by decide) ?_
                refine lv_istore_n (lv' := [(3, .int 1), (2, .int 1), (0, .ref h0), (1, .int x)]) hx hb dX9_segment_97 rfl hl (by decide) rfl (fun ls hl => ?_)
                have v_1274 : 1 ≤ (1 : Int32).toInt := by
                  have k_1275 : (1 : Int32).toInt = 1 := by decide
                  have q_1276 := i_ne c_580
                  have k_1277 : (4 : Int32).toInt = 4 := by decide
                  have q_1278 := i_ne c_768
                  have k_1279 : (5 : Int32).toInt = 5 := by decide
                  have q_1280 := i_eq c_1014
                  have k_1281 : (0 : Int32).toInt = 0 := by decide
                  have q_1282 := i_ne c_1152
                  have q_1283 := i_ne c_1165
                  have q_1284 := i_nle c_1242
                  try generalize Int32.toInt r_1164 = z0 at *
                  try generalize Int32.toInt dc = z1 at *
                  try generalize Int32.toInt mn = z2 at *
                  try generalize Int32.toInt (0 : Int32) = z3 at *
                  try generalize Int32.toInt (1 : Int32) = z4 at *
                  try generalize Int32.toInt (4 : Int32) = z5 at *
                  try generalize Int32.toInt (5 : Int32) = z6 at *
                  omega
                have v_1285 : (1 : Int32).toInt ≤ mn.toInt := by
                  have k_1286 : (1 : Int32).toInt = 1 := by decide
                  have q_1287 := i_ne c_580
                  have k_1288 : (4 : Int32).toInt = 4 := by decide
                  have q_1289 := i_ne c_768
                  have k_1290 : (5 : Int32).toInt = 5 := by decide
                  have q_1291 := i_eq c_1014
                  have k_1292 : (0 : Int32).toInt = 0 := by decide
                  have q_1293 := i_ne c_1152
                  have q_1294 := i_ne c_1165
                  have q_1295 := i_nle c_1242
                  try generalize Int32.toInt r_1164 = z0 at *
                  try generalize Int32.toInt dc = z1 at *
                  try generalize Int32.toInt mn = z2 at *
                  try generalize Int32.toInt (0 : Int32) = z3 at *
                  try generalize Int32.toInt (1 : Int32) = z4 at *
                  try generalize Int32.toInt (4 : Int32) = z5 at *
                  try generalize Int32.toInt (5 : Int32) = z6 at *
                  omega
                have v_1296 : mn.toInt ≤ 5 := by
                  have k_1297 : (1 : Int32).toInt = 1 := by decide
                  have q_1298 := i_ne c_580
                  have k_1299 : (4 : Int32).toInt = 4 := by decide
                  have q_1300 := i_ne c_768
                  have k_1301 : (5 : Int32).toInt = 5 := by decide
                  have q_1302 := i_eq c_1014
                  have k_1303 : (0 : Int32).toInt = 0 := by decide
                  have q_1304 := i_ne c_1152
                  have q_1305 := i_ne c_1165
                  have q_1306 := i_nle c_1242
                  try generalize Int32.toInt r_1164 = z0 at *
                  try generalize Int32.toInt dc = z1 at *
                  try generalize Int32.toInt mn = z2 at *
                  try generalize Int32.toInt (0 : Int32) = z3 at *
                  try generalize Int32.toInt (1 : Int32) = z4 at *
                  try generalize Int32.toInt (4 : Int32) = z5 at *
                  try generalize Int32.toInt (5 : Int32) = z6 at *
                  omega
                have v_1307 : 6 - (1 : Int32).toInt < ((7 : Nat) : Int) := by
                  have k_1308 : (1 : Int32).toInt = 1 := by decide
                  have q_1309 := i_ne c_580
                  have k_1310 : (4 : Int32).toInt = 4 := by decide
                  have q_1311 := i_ne c_768
                  have k_1312 : (5 : Int32).toInt = 5 := by decide
                  have q_1313 := i_eq c_1014
                  have k_1314 : (0 : Int32).toInt = 0 := by decide
                  have q_1315 := i_ne c_1152
                  have q_1316 := i_ne c_1165
                  have q_1317 := i_nle c_1242
                  try generalize Int32.toInt r_1164 = z0 at *
                  try generalize Int32.toInt dc = z1 at *
                  try generalize Int32.toInt mn = z2 at *
                  try generalize Int32.toInt (0 : Int32) = z3 at *
                  try generalize Int32.toInt (1 : Int32) = z4 at *
                  try generalize Int32.toInt (4 : Int32) = z5 at *
                  try generalize Int32.toInt (5 : Int32) = z6 at *
                  omega
                exact loop_98 7 (1) (1) ((vp_updL la (1 : Int32).toNatClampNeg ((la (1 : Int32).toNatClampNeg) + (nu (0 : Int32).toNatClampNeg)))) _ _ ls hR v_1274 v_1285 v_1296 v_1307 hP hD hS (lv_sub hl [2, 3, 1, 0] rfl)
      · rw [if_neg c_1014] at hR
        refine lv_aload_n hx hb dX9_segment_24 rfl (lv_at hl 0 rfl) ?_
        refine lv_iconst (v := 3) hx hb dX9_segment_25 (by decide) ?_
        refine lv_iload_n hx hb dX9_segment_26 rfl (lv_at hl 1 rfl) ?_
        have hPc := hP.sub (ws' := [(h0, .inr (9, [.int th, .ref a0, .ref a1, .ref a2, .int dc, .ref a3, .int tl, .ref a4, .int xl, .int fo, .int fa, .ref a5, .int mn, .ref a6, .int ft, .ref a7, .int wl]))]) [0] rfl
        have hDc := hD.sub (ws' := [(h0, .inr (9, [.int th, .ref a0, .ref a1, .ref a2, .int dc, .ref a3, .int tl, .ref a4, .int xl, .int fo, .int fa, .ref a5, .int mn, .ref a6, .int ft, .ref a7, .int wl]))]) [0] (by decide) rfl
        have hFc := va_free (wc := [(h0, .inr (9, [.int th, .ref a0, .ref a1, .ref a2, .int dc, .ref a3, .int tl, .ref a4, .int xl, .int fo, .int fa, .ref a5, .int mn, .ref a6, .int ft, .ref a7, .int wl]))]) hD hS hA [0] rfl
        refine va_calli (va_runV (As := [.int 3, .int x]) (rest := []) ⟨hx, hb, hml, hown, hts⟩ (c_X9_fails l dC dI cB cC cI cJ H.size h0 a0 a1 a2 a3 a4 a5 a6 a7 th dc tl xl fo fa mn ft wl 3 x ) (cwV 2 hts gX9_segment_X9_fails rfl rfl rfl (by decide +kernel) ⟨(Nat.le_of_ble_eq_true rfl), (Nat.le_of_ble_eq_true rfl)⟩) ⟨cP_blind, va_recv hG.1 hPc (ci := 9) (q0 := 0) rfl rfl, cP_pre hPc hG hDc⟩ rfl rfl hl.1 rfl (lv_room (Nat.le_of_ble_eq_true rfl)) dX9_segment_27 ⟨Nat.le_of_ble_eq_true rfl, Nat.le_of_ble_eq_true rfl⟩) hS (fun q _ h => hFc q h) hFc (fun r_1318v u t H1 locs ht hvm hw hB hz1 hk1 hS => ?_)
        obtain ⟨hP1, hD1⟩ := hB
        rw [ht] at hP1
        generalize hr_1318 : fX9_fails th dc tl xl fo fa mn ft wl 3 x = r_1318 at hP1 hD1 hw
        obtain ⟨hw, er_1318_0⟩ := hw
        rw [bnd_eq hr_1318] at hR
        subst hw
        obtain ⟨hP, hD⟩ := va_join (wr := [(a2, .inl (cI, 1800, .inl dr)), (a5, .inl (cJ, 6, .inr (.inl nu))), (a6, .inl (cJ, 6, .inr (.inl la)))]) (w1 := [(h0, .inr (9, [.int th, .ref a0, .ref a1, .ref a2, .int dc, .ref a3, .int tl, .ref a4, .int xl, .int r_1318.2.1, .int r_1318.2.2, .ref a5, .int mn, .ref a6, .int ft, .ref a7, .int wl]))]) hP hD [0] [1, 2, 3] rfl rfl (by decide) (by decide) hk1 hFc hP1 hD1
        generalize H1 = H at hP hS ⊢
        have hP := hP.sub (ws' := [(h0, .inr (9, [.int th, .ref a0, .ref a1, .ref a2, .int dc, .ref a3, .int tl, .ref a4, .int xl, .int r_1318.2.1, .int r_1318.2.2, .ref a5, .int mn, .ref a6, .int ft, .ref a7, .int wl])), (a2, .inl (cI, 1800, .inl dr)), (a5, .inl (cJ, 6, .inr (.inl nu))), (a6, .inl (cJ, 6, .inr (.inl la)))]) [3, 0, 1, 2] rfl
        have hD := hD.sub (ws' := [(h0, .inr (9, [.int th, .ref a0, .ref a1, .ref a2, .int dc, .ref a3, .int tl, .ref a4, .int xl, .int r_1318.2.1, .int r_1318.2.2, .ref a5, .int mn, .ref a6, .int ft, .ref a7, .int wl])), (a2, .inl (cI, 1800, .inl dr)), (a5, .inl (cJ, 6, .inr (.inl nu))), (a6, .inl (cJ, 6, .inr (.inl la)))]) [3, 0, 1, 2] (by decide) rfl
        have e_1319 : dc.toInt ≤ (dc : Int32).toInt ∧ (dc : Int32).toInt ≤ 300 := by
          have k_1320 : (1 : Int32).toInt = 1 := by decide
          have q_1321 := i_ne c_580
          have k_1322 : (4 : Int32).toInt = 4 := by decide
          have q_1323 := i_ne c_768
          have k_1324 : (5 : Int32).toInt = 5 := by decide
          have q_1325 := i_ne c_1014
          try generalize Int32.toInt dc = z0 at *
          try generalize Int32.toInt mn = z1 at *
          try generalize Int32.toInt (1 : Int32) = z2 at *
          try generalize Int32.toInt (4 : Int32) = z3 at *
          try generalize Int32.toInt (5 : Int32) = z4 at *
          omega
        subst hR
        exact W.zret (v := r_1318.1) hx hb hr (narz (by assumption)) (fun t ht hW => ⟨⟨r_1318.1, (), rfl, ⟨rfl, e_1319⟩, by rw [ht]; exact hP, hD⟩, hS.F ht⟩) hS.2.2 dX9_segment_30
