def fX9_write_303 (th dc tl xl fo fa mn ft wl : Int32) (rw : Nat → Int32) (ct : Nat → Int32) (tx : Nat → Int32) (wr : Nat → Int32) (x : Int32) : Nat → Int32 → (Nat → Int32) → Int32 → Int32 → (Nat → Int32) → Int32 × Int32 × Int32 × Int32 × Int32 × (Nat → Int32) × (Nat → Int32)
  | 0, _, _, _, _, _ => (0, 0, 0, 0, 0, (fun _ => 0), (fun _ => 0))
  | n + 1, k, tz, wq, fq, wz =>
    if wq ≤ k then
      (wq, 0, wq, fq, wq, tz, wz)
    else
      fX9_write_303 th dc tl xl fo fa mn ft wl rw ct tx wr x n (k + 1) (upd tz k.toNatClampNeg (vp_nar .byte (wz k.toNatClampNeg))) wq fq wz
def fX9_write_A (th dc tl xl fo fa mn ft wl : Int32) (rw : Nat → Int32) (ct : Nat → Int32) (tx : Nat → Int32) (wr : Nat → Int32) (x : Int32) : Nat → Nat → Int32 → Int32 → Int32 → Int32 → Int32 → Int32 → Int32 → Int32 → Int32 → Int32 → (Nat → Int32) → Int32 × Int32 × Int32 × Int32 × Int32 × (Nat → Int32) × (Nat → Int32)
  | 0, _, _, _, _, _, _, _, _, _, _, _, _ => (0, 0, 0, 0, 0, (fun _ => 0), (fun _ => 0))
  | n + 1, hd, li, co, so, sl, sc, nm, fi, k, ftz, wlz, wz =>
    if hd = 48 then
      if (ct x.toNatClampNeg) ≤ k then
        if ftz = 0 then
          ((-1), 0, xl, ftz, wlz, tx, wz)
        else
          fX9_write_303 th dc tl xl fo fa mn ft wl rw ct tx wr x 6001 0 tx wlz ftz wz
      else
        fX9_write_A th dc tl xl fo fa mn ft wl rw ct tx wr x n 72 li co so sl sc nm fi k ftz wlz wz
    else 
      if (rw ((1800 * x) + (6 * k)).toNatClampNeg) ≤ li then
        if fi = 0 then
          bnd (fX9_add 0 dc tl xl fo fa mn ftz wlz wz 44) fun r_470 =>
          bnd (fX9_addNumber 0 dc tl xl fo fa mn r_470.1 r_470.2.1 r_470.2.2 ((rw (((1800 * x) + (6 * k)) + 1).toNatClampNeg) - co)) fun r_492 =>
          if 0 ≤ (rw (((1800 * x) + (6 * k)) + 2).toNatClampNeg) then
            bnd (fX9_addNumber 0 dc tl xl fo fa mn r_492.1 r_492.2.1 r_492.2.2 ((rw (((1800 * x) + (6 * k)) + 2).toNatClampNeg) - so)) fun r_544 =>
            bnd (fX9_addNumber 0 dc tl xl fo fa mn r_544.1 r_544.2.1 r_544.2.2 ((rw (((1800 * x) + (6 * k)) + 3).toNatClampNeg) - sl)) fun r_569 =>
            bnd (fX9_addNumber 0 dc tl xl fo fa mn r_569.1 r_569.2.1 r_569.2.2 ((rw (((1800 * x) + (6 * k)) + 4).toNatClampNeg) - sc)) fun r_594 =>
            if 0 ≤ (rw (((1800 * x) + (6 * k)) + 5).toNatClampNeg) then
              bnd (fX9_addNumber 0 dc tl xl fo fa mn r_594.1 r_594.2.1 r_594.2.2 ((rw (((1800 * x) + (6 * k)) + 5).toNatClampNeg) - nm)) fun r_679 =>
              fX9_write_A th dc tl xl fo fa mn ft wl rw ct tx wr x n 48 li (rw (((1800 * x) + (6 * k)) + 1).toNatClampNeg) (rw (((1800 * x) + (6 * k)) + 2).toNatClampNeg) (rw (((1800 * x) + (6 * k)) + 3).toNatClampNeg) (rw (((1800 * x) + (6 * k)) + 4).toNatClampNeg) (rw (((1800 * x) + (6 * k)) + 5).toNatClampNeg) 0 (k + 1) r_679.1 r_679.2.1 r_679.2.2
            else
              fX9_write_A th dc tl xl fo fa mn ft wl rw ct tx wr x n 48 li (rw (((1800 * x) + (6 * k)) + 1).toNatClampNeg) (rw (((1800 * x) + (6 * k)) + 2).toNatClampNeg) (rw (((1800 * x) + (6 * k)) + 3).toNatClampNeg) (rw (((1800 * x) + (6 * k)) + 4).toNatClampNeg) nm 0 (k + 1) r_594.1 r_594.2.1 r_594.2.2
          else
            fX9_write_A th dc tl xl fo fa mn ft wl rw ct tx wr x n 48 li (rw (((1800 * x) + (6 * k)) + 1).toNatClampNeg) so sl sc nm 0 (k + 1) r_492.1 r_492.2.1 r_492.2.2
        else
          bnd (fX9_addNumber 0 dc tl xl fo fa mn ftz wlz wz ((rw (((1800 * x) + (6 * k)) + 1).toNatClampNeg) - co)) fun r_108 =>
          if 0 ≤ (rw (((1800 * x) + (6 * k)) + 2).toNatClampNeg) then
            bnd (fX9_addNumber 0 dc tl xl fo fa mn r_108.1 r_108.2.1 r_108.2.2 ((rw (((1800 * x) + (6 * k)) + 2).toNatClampNeg) - so)) fun r_160 =>
            bnd (fX9_addNumber 0 dc tl xl fo fa mn r_160.1 r_160.2.1 r_160.2.2 ((rw (((1800 * x) + (6 * k)) + 3).toNatClampNeg) - sl)) fun r_185 =>
            bnd (fX9_addNumber 0 dc tl xl fo fa mn r_185.1 r_185.2.1 r_185.2.2 ((rw (((1800 * x) + (6 * k)) + 4).toNatClampNeg) - sc)) fun r_210 =>
            if 0 ≤ (rw (((1800 * x) + (6 * k)) + 5).toNatClampNeg) then
              bnd (fX9_addNumber 0 dc tl xl fo fa mn r_210.1 r_210.2.1 r_210.2.2 ((rw (((1800 * x) + (6 * k)) + 5).toNatClampNeg) - nm)) fun r_295 =>
              fX9_write_A th dc tl xl fo fa mn ft wl rw ct tx wr x n 48 li (rw (((1800 * x) + (6 * k)) + 1).toNatClampNeg) (rw (((1800 * x) + (6 * k)) + 2).toNatClampNeg) (rw (((1800 * x) + (6 * k)) + 3).toNatClampNeg) (rw (((1800 * x) + (6 * k)) + 4).toNatClampNeg) (rw (((1800 * x) + (6 * k)) + 5).toNatClampNeg) 0 (k + 1) r_295.1 r_295.2.1 r_295.2.2
            else
              fX9_write_A th dc tl xl fo fa mn ft wl rw ct tx wr x n 48 li (rw (((1800 * x) + (6 * k)) + 1).toNatClampNeg) (rw (((1800 * x) + (6 * k)) + 2).toNatClampNeg) (rw (((1800 * x) + (6 * k)) + 3).toNatClampNeg) (rw (((1800 * x) + (6 * k)) + 4).toNatClampNeg) nm 0 (k + 1) r_210.1 r_210.2.1 r_210.2.2
          else
            fX9_write_A th dc tl xl fo fa mn ft wl rw ct tx wr x n 48 li (rw (((1800 * x) + (6 * k)) + 1).toNatClampNeg) so sl sc nm 0 (k + 1) r_108.1 r_108.2.1 r_108.2.2
      else
        bnd (fX9_add 0 dc tl xl fo fa mn ftz wlz wz 59) fun r_854 =>
        fX9_write_A th dc tl xl fo fa mn ft wl rw ct tx wr x n 72 (li + 1) 0 so sl sc nm 1 k r_854.1 r_854.2.1 r_854.2.2
def fX9_write (th dc tl xl fo fa mn ft wl : Int32) (rw : Nat → Int32) (ct : Nat → Int32) (tx : Nat → Int32) (wr : Nat → Int32) (x : Int32) : Int32 × Int32 × Int32 × Int32 × Int32 × (Nat → Int32) × (Nat → Int32) :=
  if x < 0 then
    ((-1), 0, xl, ft, wl, tx, wr)
  else
    if x ≤ 1 then
      fX9_write_A th dc tl xl fo fa mn ft wl rw ct tx wr x 1110 48 0 0 0 0 0 0 1 0 1 0 wr
    else
      ((-1), 0, xl, ft, wl, tx, wr)
theorem inc_X9_write_9 : ∀ w ∈ u_ws RX9 TX9 17, w ∈ wsX9_write := by decide +kernel
set_option maxHeartbeats 4000000 in
set_option maxRecDepth 100000 in
theorem c_X9_write (l : Launch) (dC : Nat → ClassId) (dI : Nat → Nat → Nat) (cB cC cI cJ : ClassId) (sz : Nat) (h0 a0 a1 a2 a3 a4 a5 a6 a7 : Nat) (th dc tl xl fo fa mn ft wl : Int32) (rw : Nat → Int32) (ct : Nat → Int32) (tx : Nat → Int32) (wr : Nat → Int32) (x : Int32) (hct : ∀ j : Nat, j < 2 → 0 ≤ (ct j).toInt ∧ (ct j).toInt ≤ 300) (hlin : ∀ k : Int32, 0 ≤ k.toInt → k.toInt < (ct x.toNatClampNeg).toInt → (rw ((1800 * x) + (6 * k)).toNatClampNeg).toInt ≤ 199) : Met l yX9_write wsX9_write ({ frames := 2, cells := 0, slots := 0, locals := 46 } : Room) (cP dC dI cB cC cI cJ [.ref h0, .int x] sz [(h0, .inr (9, [.int th, .ref a0, .ref a1, .ref a2, .int dc, .ref a3, .int tl, .ref a4, .int xl, .int fo, .int fa, .ref a5, .int mn, .ref a6, .int ft, .ref a7, .int wl])), (a0, .inl (cI, 3600, .inl rw)), (a1, .inl (cI, 2, .inl ct)), (a4, .inl (cB, 6000, .inl tx)), (a7, .inl (cB, 6000, .inl wr))]) (va_Qi (fun r _ => r = (fX9_write th dc tl xl fo fa mn ft wl rw ct tx wr x).1 ∧ ((fX9_write th dc tl xl fo fa mn ft wl rw ct tx wr x).1.toInt = -1 ∨ (0 ≤ (fX9_write th dc tl xl fo fa mn ft wl rw ct tx wr x).2.2.1.toInt ∧ (fX9_write th dc tl xl fo fa mn ft wl rw ct tx wr x).2.2.1.toInt ≤ 6000))) (cE dC dI (va_A [(h0, .inr (9, [.int th, .ref a0, .ref a1, .ref a2, .int dc, .ref a3, .int tl, .ref a4, .int xl, .int fo, .int fa, .ref a5, .int mn, .ref a6, .int ft, .ref a7, .int wl])), (a0, .inl (cI, 3600, .inl rw)), (a1, .inl (cI, 2, .inl ct)), (a4, .inl (cB, 6000, .inl tx)), (a7, .inl (cB, 6000, .inl wr))] sz) [(h0, .inr (9, [.int (fX9_write th dc tl xl fo fa mn ft wl rw ct tx wr x).2.1, .ref a0, .ref a1, .ref a2, .int dc, .ref a3, .int tl, .ref a4, .int (fX9_write th dc tl xl fo fa mn ft wl rw ct tx wr x).2.2.1, .int fo, .int fa, .ref a5, .int mn, .ref a6, .int (fX9_write th dc tl xl fo fa mn ft wl rw ct tx wr x).2.2.2.1, .ref a7, .int (fX9_write th dc tl xl fo fa mn ft wl rw ct tx wr x).2.2.2.2.1])), (a0, .inl (cI, 3600, .inl rw)), (a1, .inl (cI, 2, .inl ct)), (a4, .inl (cB, 6000, .inl (fX9_write th dc tl xl fo fa mn ft wl rw ct tx wr x).2.2.2.2.2.1)), (a7, .inl (cB, 6000, .inl (fX9_write th dc tl xl fo fa mn ft wl rw ct tx wr x).2.2.2.2.2.2))]) (va_A [(h0, .inr (9, [.int th, .ref a0, .ref a1, .ref a2, .int dc, .ref a3, .int tl, .ref a4, .int xl, .int fo, .int fa, .ref a5, .int mn, .ref a6, .int ft, .ref a7, .int wl])), (a0, .inl (cI, 3600, .inl rw)), (a1, .inl (cI, 2, .inl ct)), (a4, .inl (cB, 6000, .inl tx)), (a7, .inl (cB, 6000, .inl wr))] sz)) 0 0 (va_A [(h0, .inr (9, [.int th, .ref a0, .ref a1, .ref a2, .int dc, .ref a3, .int tl, .ref a4, .int xl, .int fo, .int fa, .ref a5, .int mn, .ref a6, .int ft, .ref a7, .int wl])), (a0, .inl (cI, 3600, .inl rw)), (a1, .inl (cI, 2, .inl ct)), (a4, .inl (cB, 6000, .inl tx)), (a7, .inl (cB, 6000, .inl wr))] sz) := by
  refine Met.ofW (cc := cX9_write) (maxL := 11) (ret := (some .int)) (by decide) rfl ?_
  intro p e s m args below meth c s₁ B hml hv
  obtain ⟨rfl, hsz, hP, hG, hD0⟩ := hv
  have hx := B.exec
  have hb := B.bytes
  have hr := B.returns
  have hts := atoms_spec (ws := wsX9_write) B.pre
  have hown : s.vm.findClass RX9 = some m.cls := findClass_of_methodNamed B.named
  have hlocks := B.notSynchronized
  subst hsz
  have hD := hD0.self (sz := s.heap.size)
  generalize hAe : va_A [(h0, .inr (9, [.int th, .ref a0, .ref a1, .ref a2, .int dc, .ref a3, .int tl, .ref a4, .int xl, .int fo, .int fa, .ref a5, .int mn, .ref a6, .int ft, .ref a7, .int wl])), (a0, .inl (cI, 3600, .inl rw)), (a1, .inl (cI, 2, .inl ct)), (a4, .inl (cB, 6000, .inl tx)), (a7, .inl (cB, 6000, .inl wr))] s.heap.size = A at hD ⊢
  have hA : ∀ q : Nat, s.heap.size ≤ q → A q := fun q h => by rw [← hAe]; exact Or.inr h
  obtain ⟨H, hH⟩ : ∃ H : Heap, H = s.heap := ⟨_, rfl⟩
  have hS : va_S A s.heap H [] := by rw [hH]; exact va_S.rf
  rw [← hH] at hP ⊢
  generalize hR : fX9_write th dc tl xl fo fa mn ft wl rw ct tx wr x = R
  unfold fX9_write at hR
  have hl := lv_entry ([.ref h0, .int x]) (n := 11) (Nat.le_of_ble_eq_true rfl)
  rw [lg_entry_eq]
  generalize (lg_sl ([.ref h0, .int x]) ++ List.replicate (11 - (lg_sl ([.ref h0, .int x])).length) Slot.unset).toArray = ls at hl ⊢
  have hl : lv_has ls 11 [(0, .ref h0), (1, .int x)] := hl
  have loop_303 : ∀ (n : Nat), ∀ (k : Int32) (tz : Nat → Int32) (wq : Int32) (fq : Int32) (wz : Nat → Int32) (H : Heap) (locs : List Loc) (ls : Array Slot), fX9_write_303 th dc tl xl fo fa mn ft wl rw ct tx wr x n k tz wq fq wz = R → (0 ≤ x.toInt) → (x.toInt ≤ 1) → (0 ≤ k.toInt) → (k.toInt ≤ wq.toInt) → (wq.toInt ≤ 6000) → (wq.toInt - k.toInt < ((n : Nat) : Int)) → va_P (dC, dI) vwCl [(h0, .inr (9, [.int 0, .ref a0, .ref a1, .ref a2, .int dc, .ref a3, .int tl, .ref a4, .int wq, .int fo, .int fa, .ref a5, .int mn, .ref a6, .int fq, .ref a7, .int wq])), (a0, .inl (cI, 3600, .inl rw)), (a1, .inl (cI, 2, .inl ct)), (a4, .inl (cB, 6000, .inl tz)), (a7, .inl (cB, 6000, .inl wz))] H → va_D A [(h0, .inr (9, [.int 0, .ref a0, .ref a1, .ref a2, .int dc, .ref a3, .int tl, .ref a4, .int wq, .int fo, .int fa, .ref a5, .int mn, .ref a6, .int fq, .ref a7, .int wq])), (a0, .inl (cI, 3600, .inl rw)), (a1, .inl (cI, 2, .inl ct)), (a4, .inl (cB, 6000, .inl tz)), (a7, .inl (cB, 6000, .inl wz))] → va_S A s.heap H locs → lv_has ls 11 [(0, .ref h0), (1, .int x), (9, .int k)] → W p l e (headSpec wsX9_write ({ frames := 2, cells := 0, slots := 0, locals := 46 } : Room)).room s m ([.ref h0, .int x] : List Value).toArray below meth c H locs 0 0 (MQ below (va_Qi (fun r _ => r = R.1 ∧ (R.1.toInt = -1 ∨ (0 ≤ R.2.2.1.toInt ∧ R.2.2.1.toInt ≤ 6000))) (cE dC dI (A) [(h0, .inr (9, [.int R.2.1, .ref a0, .ref a1, .ref a2, .int dc, .ref a3, .int tl, .ref a4, .int R.2.2.1, .int fo, .int fa, .ref a5, .int mn, .ref a6, .int R.2.2.2.1, .ref a7, .int R.2.2.2.2.1])), (a0, .inl (cI, 3600, .inl rw)), (a1, .inl (cI, 2, .inl ct)), (a4, .inl (cB, 6000, .inl R.2.2.2.2.2.1)), (a7, .inl (cB, 6000, .inl R.2.2.2.2.2.2))]) (A)) ([.ref h0, .int x] : List Value).toArray s 0 0 A) (F0 m 303 ls []) := by
    intro n
    induction n with
    | zero => intro k tz wq fq wz H locs ls hR hx0 hx1 hk0 hk1 hq1 hmu; exfalso; omega
    | succ n ih =>
      intro k tz wq fq wz H locs ls hR hx0 hx1 hk0 hk1 hq1 hmu hP hD hS hl
      rw [fX9_write_303] at hR
      refine lv_iload hx hb dX9_write_303 (lv_at hl 2 rfl) ?_
      refine lv_aload_n hx hb dX9_write_305 rfl (lv_at hl 0 rfl) ?_
      refine va_get (D := (dC, dI)) (ci := 9) (v := .int wq) (C := RX9) (T := TX9) (N := 17) hx hb hts inc_X9_write_9 hown hG.1 hP 0 rfl rfl 8 (by decide) (hts (.fieldLink RX9 36 "MappingDeskModel" "textLen" "I") (by decide +kernel)) (fun _ h9 => h9) rfl dX9_write_306 ?_
      refine lv_icmp_ge (tgt := 332) hx hb dX9_write_309 (by decide) (fun c_1 => ?_) (fun c_1 => ?_)
      · rw [if_pos c_1] at hR
        refine lv_aload_n hx hb dX9_write_332 rfl (lv_at hl 0 rfl) ?_
        refine va_get (D := (dC, dI)) (ci := 9) (v := .int wq) (C := RX9) (T := TX9) (N := 17) hx hb hts inc_X9_write_9 hown hG.1 hP 0 rfl rfl 8 (by decide) (hts (.fieldLink RX9 36 "MappingDeskModel" "textLen" "I") (by decide +kernel)) (fun _ h9 => h9) rfl dX9_write_333 ?_
        have e_2 : (wq : Int32).toInt = -1 ∨ (0 ≤ (wq : Int32).toInt ∧ (wq : Int32).toInt ≤ 6000) := by
          have q_3 := i_le c_1
          try have hq7 := hct x.toNatClampNeg (cl_lt (by omega) (by omega))
          try generalize Int32.toInt (ct x.toNatClampNeg) = z0 at *
          try generalize Int32.toInt wq = z1 at *
          try generalize Int32.toInt k = z2 at *
          try generalize Int32.toInt x = z3 at *
          omega
        subst hR
        exact W.iret (v := wq) hx hb hr (fun t ht hW => ⟨⟨wq, (), rfl, ⟨rfl, e_2⟩, by rw [ht]; exact hP, hD⟩, hS.F ht⟩) hS.2.2 dX9_write_336
      · rw [if_neg c_1] at hR
        refine lv_aload_n hx hb dX9_write_312 rfl (lv_at hl 0 rfl) ?_
        refine va_get (D := (dC, dI)) (ci := 9) (v := .ref a4) (C := RX9) (T := TX9) (N := 17) hx hb hts inc_X9_write_9 hown hG.1 hP 0 rfl rfl 7 (by decide) (hts (.fieldLink RX9 33 "MappingDeskModel" "text" "[B") (by decide +kernel)) (fun _ h9 => h9) rfl dX9_write_313 ?_
        refine lv_iload hx hb dX9_write_316 (lv_at hl 2 rfl) ?_
        refine lv_aload_n hx hb dX9_write_318 rfl (lv_at hl 0 rfl) ?_
        refine va_get (D := (dC, dI)) (ci := 9) (v := .ref a7) (C := RX9) (T := TX9) (N := 17) hx hb hts inc_X9_write_9 hown hG.1 hP 0 rfl rfl 15 (by decide) (hts (.fieldLink RX9 59 "MappingDeskModel" "written" "[B") (by decide +kernel)) (fun _ h9 => h9) rfl dX9_write_319 ?_
        refine lv_iload hx hb dX9_write_322 (lv_at hl 2 rfl) ?_
        have b_4 : vp_in k 6000 := by
          have q_5 := i_nle c_1
          try have hq7 := hct x.toNatClampNeg (cl_lt (by omega) (by omega))
          refine vin ?_ ?_
          all_goals (try generalize Int32.toInt (ct x.toNatClampNeg) = z0 at *; try generalize Int32.toInt wq = z1 at *; try generalize Int32.toInt k = z2 at *; try generalize Int32.toInt x = z3 at *; omega)
        refine va_bald hx hb hG.1 hP 4 0 rfl rfl b_4 dX9_write_324 ?_
        have b_8 : vp_in k 6000 := by
          have q_9 := i_nle c_1
          try have hq7 := hct x.toNatClampNeg (cl_lt (by omega) (by omega))
          refine vin ?_ ?_
          all_goals (try generalize Int32.toInt (ct x.toNatClampNeg) = z0 at *; try generalize Int32.toInt wq = z1 at *; try generalize Int32.toInt k = z2 at *; try generalize Int32.toInt x = z3 at *; omega)
        refine va_bast hx hb hG.1 hP hD hS 3 0 rfl rfl b_8 dX9_write_325 (fun H locs hP hD hS => ?_)
        have hP : va_P (dC, dI) vwCl [(h0, .inr (9, [.int 0, .ref a0, .ref a1, .ref a2, .int dc, .ref a3, .int tl, .ref a4, .int wq, .int fo, .int fa, .ref a5, .int mn, .ref a6, .int fq, .ref a7, .int wq])), (a0, .inl (cI, 3600, .inl rw)), (a1, .inl (cI, 2, .inl ct)), (a4, .inl (cB, 6000, .inl (upd tz k.toNatClampNeg (vp_nar .byte (wz k.toNatClampNeg))))), (a7, .inl (cB, 6000, .inl wz))] H := hP
        have hD : va_D A [(h0, .inr (9, [.int 0, .ref a0, .ref a1, .ref a2, .int dc, .ref a3, .int tl, .ref a4, .int wq, .int fo, .int fa, .ref a5, .int mn, .ref a6, .int fq, .ref a7, .int wq])), (a0, .inl (cI, 3600, .inl rw)), (a1, .inl (cI, 2, .inl ct)), (a4, .inl (cB, 6000, .inl (upd tz k.toNatClampNeg (vp_nar .byte (wz k.toNatClampNeg))))), (a7, .inl (cB, 6000, .inl wz))] := hD
        refine lv_iinc (v := (k + 1)) (lv' := [(9, .int (k + 1)), (0, .ref h0), (1, .int x)]) hx hb dX9_write_326 hl (k := 2) rfl rfl (by decide) rfl (fun ls hl => ?_)
        refine lv_goto (tgt := 303) hx hb dX9_write_329 (by decide) ?_
        have v_13 : 0 ≤ x.toInt := by
          exact hx0
        have v_14 : x.toInt ≤ 1 := by
          exact hx1
        have v_15 : 0 ≤ ((k + 1)).toInt := by
          have q_16 := i_nle c_1
          try have hq7 := hct x.toNatClampNeg (cl_lt (by omega) (by omega))
          have k_17 : (1 : Int32).toInt = 1 := by decide
          have t_18 := ti_add (a := k) (b := 1) (by omega) (by omega)
          try generalize Int32.toInt (ct x.toNatClampNeg) = z0 at *
          try generalize Int32.toInt (k + 1) = z1 at *
          try generalize Int32.toInt wq = z2 at *
          try generalize Int32.toInt (1 : Int32) = z3 at *
          try generalize Int32.toInt k = z4 at *
          try generalize Int32.toInt x = z5 at *
          omega
        have v_19 : ((k + 1)).toInt ≤ wq.toInt := by
          have q_20 := i_nle c_1
          try have hq7 := hct x.toNatClampNeg (cl_lt (by omega) (by omega))
          have k_21 : (1 : Int32).toInt = 1 := by decide
          have t_22 := ti_add (a := k) (b := 1) (by omega) (by omega)
          try generalize Int32.toInt (ct x.toNatClampNeg) = z0 at *
          try generalize Int32.toInt (k + 1) = z1 at *
          try generalize Int32.toInt wq = z2 at *
          try generalize Int32.toInt (1 : Int32) = z3 at *
          try generalize Int32.toInt k = z4 at *
          try generalize Int32.toInt x = z5 at *
          omega
        have v_23 : wq.toInt ≤ 6000 := by
          have q_24 := i_nle c_1
          try have hq7 := hct x.toNatClampNeg (cl_lt (by omega) (by omega))
          try generalize Int32.toInt (ct x.toNatClampNeg) = z0 at *
          try generalize Int32.toInt wq = z1 at *
          try generalize Int32.toInt k = z2 at *
          try generalize Int32.toInt x = z3 at *
          omega
        have v_25 : wq.toInt - ((k + 1)).toInt < ((n : Nat) : Int) := by
          have q_26 := i_nle c_1
          try have hq7 := hct x.toNatClampNeg (cl_lt (by omega) (by omega))
          have k_27 : (1 : Int32).toInt = 1 := by decide
          have t_28 := ti_add (a := k) (b := 1) (by omega) (by omega)
          try generalize Int32.toInt (ct x.toNatClampNeg) = z0 at *
          try generalize Int32.toInt (k + 1) = z1 at *
          try generalize Int32.toInt wq = z2 at *
          try generalize Int32.toInt (1 : Int32) = z3 at *
          try generalize Int32.toInt k = z4 at *
          try generalize Int32.toInt x = z5 at *
          omega
        exact ih ((k + 1)) ((upd tz k.toNatClampNeg (vp_nar .byte (wz k.toNatClampNeg)))) (wq) (fq) (wz) _ _ ls hR v_13 v_14 v_15 v_19 v_23 v_25 hP hD hS (lv_sub hl [1, 2, 0] rfl)
  have loops_A : ∀ (n : Nat), (∀ (li : Int32) (co : Int32) (so : Int32) (sl : Int32) (sc : Int32) (nm : Int32) (fi : Int32) (k : Int32) (ftz : Int32) (wlz : Int32) (wz : Nat → Int32) (H : Heap) (locs : List Loc) (ls : Array Slot), fX9_write_A th dc tl xl fo fa mn ft wl rw ct tx wr x n 48 li co so sl sc nm fi k ftz wlz wz = R → (0 ≤ x.toInt) → (x.toInt ≤ 1) → (0 ≤ k.toInt) → (0 ≤ li.toInt) → (li.toInt ≤ 199) → (0 ≤ wlz.toInt) → (wlz.toInt ≤ 6000) → (k.toInt ≤ (ct x.toNatClampNeg).toInt) → (3 * ((ct x.toNatClampNeg).toInt - k.toInt) + (200 - li.toInt) + 1 < ((n : Nat) : Int)) → va_P (dC, dI) vwCl [(h0, .inr (9, [.int 0, .ref a0, .ref a1, .ref a2, .int dc, .ref a3, .int tl, .ref a4, .int xl, .int fo, .int fa, .ref a5, .int mn, .ref a6, .int ftz, .ref a7, .int wlz])), (a0, .inl (cI, 3600, .inl rw)), (a1, .inl (cI, 2, .inl ct)), (a4, .inl (cB, 6000, .inl tx)), (a7, .inl (cB, 6000, .inl wz))] H → va_D A [(h0, .inr (9, [.int 0, .ref a0, .ref a1, .ref a2, .int dc, .ref a3, .int tl, .ref a4, .int xl, .int fo, .int fa, .ref a5, .int mn, .ref a6, .int ftz, .ref a7, .int wlz])), (a0, .inl (cI, 3600, .inl rw)), (a1, .inl (cI, 2, .inl ct)), (a4, .inl (cB, 6000, .inl tx)), (a7, .inl (cB, 6000, .inl wz))] → va_S A s.heap H locs → lv_has ls 11 [(0, .ref h0), (1, .int x), (2, .int li), (3, .int co), (4, .int so), (5, .int sl), (6, .int sc), (7, .int nm), (8, .int fi), (9, .int k)] → W p l e (headSpec wsX9_write ({ frames := 2, cells := 0, slots := 0, locals := 46 } : Room)).room s m ([.ref h0, .int x] : List Value).toArray below meth c H locs 0 0 (MQ below (va_Qi (fun r _ => r = R.1 ∧ (R.1.toInt = -1 ∨ (0 ≤ R.2.2.1.toInt ∧ R.2.2.1.toInt ≤ 6000))) (cE dC dI (A) [(h0, .inr (9, [.int R.2.1, .ref a0, .ref a1, .ref a2, .int dc, .ref a3, .int tl, .ref a4, .int R.2.2.1, .int fo, .int fa, .ref a5, .int mn, .ref a6, .int R.2.2.2.1, .ref a7, .int R.2.2.2.2.1])), (a0, .inl (cI, 3600, .inl rw)), (a1, .inl (cI, 2, .inl ct)), (a4, .inl (cB, 6000, .inl R.2.2.2.2.2.1)), (a7, .inl (cB, 6000, .inl R.2.2.2.2.2.2))]) (A)) ([.ref h0, .int x] : List Value).toArray s 0 0 A) (F0 m 48 ls [])) ∧ (∀ (li : Int32) (co : Int32) (so : Int32) (sl : Int32) (sc : Int32) (nm : Int32) (fi : Int32) (k : Int32) (ftz : Int32) (wlz : Int32) (wz : Nat → Int32) (H : Heap) (locs : List Loc) (ls : Array Slot), fX9_write_A th dc tl xl fo fa mn ft wl rw ct tx wr x n 72 li co so sl sc nm fi k ftz wlz wz = R → (0 ≤ x.toInt) → (x.toInt ≤ 1) → (0 ≤ k.toInt) → (0 ≤ li.toInt) → (li.toInt ≤ 199) → (0 ≤ wlz.toInt) → (wlz.toInt ≤ 6000) → (k.toInt < (ct x.toNatClampNeg).toInt) → (3 * ((ct x.toNatClampNeg).toInt - k.toInt) + (200 - li.toInt) < ((n : Nat) : Int)) → va_P (dC, dI) vwCl [(h0, .inr (9, [.int 0, .ref a0, .ref a1, .ref a2, .int dc, .ref a3, .int tl, .ref a4, .int xl, .int fo, .int fa, .ref a5, .int mn, .ref a6, .int ftz, .ref a7, .int wlz])), (a0, .inl (cI, 3600, .inl rw)), (a1, .inl (cI, 2, .inl ct)), (a4, .inl (cB, 6000, .inl tx)), (a7, .inl (cB, 6000, .inl wz))] H → va_D A [(h0, .inr (9, [.int 0, .ref a0, .ref a1, .ref a2, .int dc, .ref a3, .int tl, .ref a4, .int xl, .int fo, .int fa, .ref a5, .int mn, .ref a6, .int ftz, .ref a7, .int wlz])), (a0, .inl (cI, 3600, .inl rw)), (a1, .inl (cI, 2, .inl ct)), (a4, .inl (cB, 6000, .inl tx)), (a7, .inl (cB, 6000, .inl wz))] → va_S A s.heap H locs → lv_has ls 11 [(0, .ref h0), (1, .int x), (2, .int li), (3, .int co), (4, .int so), (5, .int sl), (6, .int sc), (7, .int nm), (8, .int fi), (9, .int k), (10, .int ((1800 * x) + (6 * k)))] → W p l e (headSpec wsX9_write ({ frames := 2, cells := 0, slots := 0, locals := 46 } : Room)).room s m ([.ref h0, .int x] : List Value).toArray below meth c H locs 0 0 (MQ below (va_Qi (fun r _ => r = R.1 ∧ (R.1.toInt = -1 ∨ (0 ≤ R.2.2.1.toInt ∧ R.2.2.1.toInt ≤ 6000))) (cE dC dI (A) [(h0, .inr (9, [.int R.2.1, .ref a0, .ref a1, .ref a2, .int dc, .ref a3, .int tl, .ref a4, .int R.2.2.1, .int fo, .int fa, .ref a5, .int mn, .ref a6, .int R.2.2.2.1, .ref a7, .int R.2.2.2.2.1])), (a0, .inl (cI, 3600, .inl rw)), (a1, .inl (cI, 2, .inl ct)), (a4, .inl (cB, 6000, .inl R.2.2.2.2.2.1)), (a7, .inl (cB, 6000, .inl R.2.2.2.2.2.2))]) (A)) ([.ref h0, .int x] : List Value).toArray s 0 0 A) (F0 m 72 ls [])) := by
    intro n
    induction n with
    | zero =>
      refine ⟨?_, ?_⟩
      · intro li co so sl sc nm fi k ftz wlz wz H locs ls hR hx0 hx1 hk0 hl0 hl1 hz0 hz1 hk1 hmu; exfalso; omega
      · intro li co so sl sc nm fi k ftz wlz wz H locs ls hR hx0 hx1 hk0 hl0 hl1 hz0 hz1 hk1 hmu; exfalso; omega
    | succ n ih =>
      obtain ⟨ih_48, ih_72⟩ := ih
      refine ⟨?_, ?_⟩
      · intro li co so sl sc nm fi k ftz wlz wz H locs ls hR hx0 hx1 hk0 hl0 hl1 hz0 hz1 hk1 hmu hP hD hS hl
        rw [fX9_write_A] at hR
        rw [if_pos rfl] at hR
        refine lv_iload hx hb dX9_write_48 (lv_at hl 9 rfl) ?_
        refine lv_aload_n hx hb dX9_write_50 rfl (lv_at hl 0 rfl) ?_
        refine va_get (D := (dC, dI)) (ci := 9) (v := .ref a1) (C := RX9) (T := TX9) (N := 17) hx hb hts inc_X9_write_9 hown hG.1 hP 0 rfl rfl 2 (by decide) (hts (.fieldLink RX9 17 "MappingDeskModel" "count" "[I") (by decide +kernel)) (fun _ h9 => h9) rfl dX9_write_51 ?_
        refine lv_iload_n hx hb dX9_write_54 rfl (lv_at hl 1 rfl) ?_
        have b_29 : vp_in x 2 := by
          try have hq7 := hct x.toNatClampNeg (cl_lt (by omega) (by omega))
          refine vin ?_ ?_
          all_goals (try generalize Int32.toInt (ct x.toNatClampNeg) = z0 at *; try generalize Int32.toInt wlz = z1 at *; try generalize Int32.toInt li = z2 at *; try generalize Int32.toInt k = z3 at *; try generalize Int32.toInt x = z4 at *; omega)
        refine va_iald hx hb hG.1 hP 2 2 rfl rfl b_29 dX9_write_55 ?_
        refine lv_icmp_ge (tgt := 283) hx hb dX9_write_56 (by decide) (fun c_32 => ?_) (fun c_32 => ?_)
        · rw [if_pos c_32] at hR
          refine lv_aload_n hx hb dX9_write_283 rfl (lv_at hl 0 rfl) ?_
          refine va_get (D := (dC, dI)) (ci := 9) (v := .int ftz) (C := RX9) (T := TX9) (N := 17) hx hb hts inc_X9_write_9 hown hG.1 hP 0 rfl rfl 14 (by decide) (hts (.fieldLink RX9 55 "MappingDeskModel" "fits" "Z") (by decide +kernel)) (fun _ h9 => h9) rfl dX9_write_284 ?_
          refine lv_if_ne (tgt := 292) hx hb dX9_write_287 (by decide) (fun c_33 => ?_) (fun c_33 => ?_)
          · rw [if_neg c_33] at hR
            refine lv_aload_n hx hb dX9_write_292 rfl (lv_at hl 0 rfl) ?_
            refine lv_aload_n hx hb dX9_write_293 rfl (lv_at hl 0 rfl) ?_
            refine va_get (D := (dC, dI)) (ci := 9) (v := .int wlz) (C := RX9) (T := TX9) (N := 17) hx hb hts inc_X9_write_9 hown hG.1 hP 0 rfl rfl 16 (by decide) (hts (.fieldLink RX9 62 "MappingDeskModel" "writtenLen" "I") (by decide +kernel)) (fun _ h9 => h9) rfl dX9_write_294 ?_
            refine va_put (D := (dC, dI)) (ci := 9) (v := .int wlz) (ty := .int) (C := RX9) (T := TX9) (N := 17) hx hb hts inc_X9_write_9 tyX9 tyX9_ok nmX9 hown hG.1 hP hD hS 0 rfl rfl 8 (by decide) (hts (.fieldLink RX9 36 "MappingDeskModel" "textLen" "I") (by decide +kernel)) (fun _ h9 => h9) rfl (by decide +kernel) rfl rfl (Nat.le_of_ble_eq_true rfl) dX9_write_297 (fun H locs hP hD hS => ?_)
            have hP : va_P (dC, dI) vwCl [(h0, .inr (9, [.int 0, .ref a0, .ref a1, .ref a2, .int dc, .ref a3, .int tl, .ref a4, .int wlz, .int fo, .int fa, .ref a5, .int mn, .ref a6, .int ftz, .ref a7, .int wlz])), (a0, .inl (cI, 3600, .inl rw)), (a1, .inl (cI, 2, .inl ct)), (a4, .inl (cB, 6000, .inl tx)), (a7, .inl (cB, 6000, .inl wz))] H := hP
            have hD : va_D A [(h0, .inr (9, [.int 0, .ref a0, .ref a1, .ref a2, .int dc, .ref a3, .int tl, .ref a4, .int wlz, .int fo, .int fa, .ref a5, .int mn, .ref a6, .int ftz, .ref a7, .int wlz])), (a0, .inl (cI, 3600, .inl rw)), (a1, .inl (cI, 2, .inl ct)), (a4, .inl (cB, 6000, .inl tx)), (a7, .inl (cB, 6000, .inl wz))] := hD
            refine lv_iconst (v := 0) hx hb dX9_write_300 (by decide) ?_
            refine lv_istore (lv' := [(9, .int 0), (0, .ref h0), (1, .int x), (2, .int li), (3, .int co), (4, .int so), (5, .int sl), (6, .int sc), (7, .int nm), (8, .int fi)]) hx hb dX9_write_301 hl (by decide) rfl (fun ls hl => ?_)
            have v_37 : 0 ≤ x.toInt := by
              have q_38 := i_le c_32
              have k_39 : (0 : Int32).toInt = 0 := by decide
              have q_40 := i_ne c_33
              try have hq7 := hct x.toNatClampNeg (cl_lt (by omega) (by omega))
              try generalize Int32.toInt (ct x.toNatClampNeg) = z0 at *
              try generalize Int32.toInt ftz = z1 at *
              try generalize Int32.toInt wlz = z2 at *
              try generalize Int32.toInt li = z3 at *
              try generalize Int32.toInt (0 : Int32) = z4 at *
              try generalize Int32.toInt k = z5 at *
              try generalize Int32.toInt x = z6 at *
              omega
            have v_41 : x.toInt ≤ 1 := by
              have q_42 := i_le c_32
              have k_43 : (0 : Int32).toInt = 0 := by decide
              have q_44 := i_ne c_33
              try have hq7 := hct x.toNatClampNeg (cl_lt (by omega) (by omega))
              try generalize Int32.toInt (ct x.toNatClampNeg) = z0 at *
              try generalize Int32.toInt ftz = z1 at *
              try generalize Int32.toInt wlz = z2 at *
              try generalize Int32.toInt li = z3 at *
              try generalize Int32.toInt (0 : Int32) = z4 at *
              try generalize Int32.toInt k = z5 at *
              try generalize Int32.toInt x = z6 at *
              omega
            have v_45 : 0 ≤ (0 : Int32).toInt := by
              have q_46 := i_le c_32
              have k_47 : (0 : Int32).toInt = 0 := by decide
              have q_48 := i_ne c_33
              try have hq7 := hct x.toNatClampNeg (cl_lt (by omega) (by omega))
              try generalize Int32.toInt (ct x.toNatClampNeg) = z0 at *
              try generalize Int32.toInt ftz = z1 at *
              try generalize Int32.toInt wlz = z2 at *
              try generalize Int32.toInt li = z3 at *
              try generalize Int32.toInt (0 : Int32) = z4 at *
              try generalize Int32.toInt k = z5 at *
              try generalize Int32.toInt x = z6 at *
              omega
            have v_49 : (0 : Int32).toInt ≤ wlz.toInt := by
              have q_50 := i_le c_32
              have k_51 : (0 : Int32).toInt = 0 := by decide
              have q_52 := i_ne c_33
              try have hq7 := hct x.toNatClampNeg (cl_lt (by omega) (by omega))
              try generalize Int32.toInt (ct x.toNatClampNeg) = z0 at *
              try generalize Int32.toInt ftz = z1 at *
              try generalize Int32.toInt wlz = z2 at *
              try generalize Int32.toInt li = z3 at *
              try generalize Int32.toInt (0 : Int32) = z4 at *
              try generalize Int32.toInt k = z5 at *
              try generalize Int32.toInt x = z6 at *
              omega
            have v_53 : wlz.toInt ≤ 6000 := by
              have q_54 := i_le c_32
              have k_55 : (0 : Int32).toInt = 0 := by decide
              have q_56 := i_ne c_33
              try have hq7 := hct x.toNatClampNeg (cl_lt (by omega) (by omega))
              try generalize Int32.toInt (ct x.toNatClampNeg) = z0 at *
              try generalize Int32.toInt ftz = z1 at *
              try generalize Int32.toInt wlz = z2 at *
              try generalize Int32.toInt li = z3 at *
              try generalize Int32.toInt (0 : Int32) = z4 at *
              try generalize Int32.toInt k = z5 at *
              try generalize Int32.toInt x = z6 at *
              omega
            have v_57 : wlz.toInt - (0 : Int32).toInt < ((6001 : Nat) : Int) := by
              have q_58 := i_le c_32
              have k_59 : (0 : Int32).toInt = 0 := by decide
              have q_60 := i_ne c_33
              try have hq7 := hct x.toNatClampNeg (cl_lt (by omega) (by omega))
              try generalize Int32.toInt (ct x.toNatClampNeg) = z0 at *
              try generalize Int32.toInt ftz = z1 at *
              try generalize Int32.toInt wlz = z2 at *
              try generalize Int32.toInt li = z3 at *
              try generalize Int32.toInt (0 : Int32) = z4 at *
              try generalize Int32.toInt k = z5 at *
              try generalize Int32.toInt x = z6 at *
              omega
            exact loop_303 6001 (0) (tx) (wlz) (ftz) (wz) _ _ ls hR v_37 v_41 v_45 v_49 v_53 v_57 hP hD hS (lv_sub hl [1, 2, 0] rfl)
          · rw [if_pos c_33] at hR
            refine lv_iconst (v := (-1)) hx hb dX9_write_290 (by decide) ?_
            have e_61 : ((-1) : Int32).toInt = -1 ∨ (0 ≤ (xl : Int32).toInt ∧ (xl : Int32).toInt ≤ 6000) := by
              have q_62 := i_le c_32
              have k_63 : (0 : Int32).toInt = 0 := by decide
              have q_64 := i_eq c_33
              try have hq7 := hct x.toNatClampNeg (cl_lt (by omega) (by omega))
              have k_65 : ((-1) : Int32).toInt = -1 := by decide
              try generalize Int32.toInt (ct x.toNatClampNeg) = z0 at *
              try generalize Int32.toInt ((-1) : Int32) = z1 at *
              try generalize Int32.toInt ftz = z2 at *
              try generalize Int32.toInt wlz = z3 at *
              try generalize Int32.toInt li = z4 at *
              try generalize Int32.toInt xl = z5 at *
              try generalize Int32.toInt (0 : Int32) = z6 at *
              try generalize Int32.toInt k = z7 at *
              try generalize Int32.toInt x = z8 at *
              omega
            subst hR
            exact W.iret (v := (-1)) hx hb hr (fun t ht hW => ⟨⟨(-1), (), rfl, ⟨rfl, e_61⟩, by rw [ht]; exact hP, hD⟩, hS.F ht⟩) hS.2.2 dX9_write_291
        · rw [if_neg c_32] at hR
          refine lv_sipush (v := 1800) hx hb dX9_write_59 (by decide) ?_
          refine lv_iload_n hx hb dX9_write_62 rfl (lv_at hl 1 rfl) ?_
          refine lv_imul hx hb dX9_write_63 ?_
          refine lv_bipush (v := 6) hx hb dX9_write_64 (by decide) ?_
          refine lv_iload hx hb dX9_write_66 (lv_at hl 9 rfl) ?_
          refine lv_imul hx hb dX9_write_68 ?_
          refine lv_iadd hx hb dX9_write_69 ?_
          refine lv_istore (lv' := [(10, .int ((1800 * x) + (6 * k))), (0, .ref h0), (1, .int x), (2, .int li), (3, .int co), (4, .int so), (5, .int sl), (6, .int sc), (7, .int nm), (8, .int fi), (9, .int k)]) hx hb dX9_write_70 hl (by decide) rfl (fun ls hl => ?_)
          have v_67 : 0 ≤ x.toInt := by
            exact hx0
          have v_68 : x.toInt ≤ 1 := by
            exact hx1
          have v_69 : 0 ≤ k.toInt := by
            have q_70 := i_nle c_32
            try have hq7 := hct x.toNatClampNeg (cl_lt (by omega) (by omega))
            try generalize Int32.toInt (ct x.toNatClampNeg) = z0 at *
            try generalize Int32.toInt wlz = z1 at *
            try generalize Int32.toInt li = z2 at *
            try generalize Int32.toInt k = z3 at *
            try generalize Int32.toInt x = z4 at *
            omega
          have v_71 : 0 ≤ li.toInt := by
            have q_72 := i_nle c_32
            try have hq7 := hct x.toNatClampNeg (cl_lt (by omega) (by omega))
            try generalize Int32.toInt (ct x.toNatClampNeg) = z0 at *
            try generalize Int32.toInt wlz = z1 at *
            try generalize Int32.toInt li = z2 at *
            try generalize Int32.toInt k = z3 at *
            try generalize Int32.toInt x = z4 at *
            omega
          have v_73 : li.toInt ≤ 199 := by
            have q_74 := i_nle c_32
            try have hq7 := hct x.toNatClampNeg (cl_lt (by omega) (by omega))
            try generalize Int32.toInt (ct x.toNatClampNeg) = z0 at *
            try generalize Int32.toInt wlz = z1 at *
            try generalize Int32.toInt li = z2 at *
            try generalize Int32.toInt k = z3 at *
            try generalize Int32.toInt x = z4 at *
            omega
          have v_75 : 0 ≤ wlz.toInt := by
            have q_76 := i_nle c_32
            try have hq7 := hct x.toNatClampNeg (cl_lt (by omega) (by omega))
            try generalize Int32.toInt (ct x.toNatClampNeg) = z0 at *
            try generalize Int32.toInt wlz = z1 at *
            try generalize Int32.toInt li = z2 at *
            try generalize Int32.toInt k = z3 at *
            try generalize Int32.toInt x = z4 at *
            omega
          have v_77 : wlz.toInt ≤ 6000 := by
            have q_78 := i_nle c_32
            try have hq7 := hct x.toNatClampNeg (cl_lt (by omega) (by omega))
            try generalize Int32.toInt (ct x.toNatClampNeg) = z0 at *
            try generalize Int32.toInt wlz = z1 at *
            try generalize Int32.toInt li = z2 at *
            try generalize Int32.toInt k = z3 at *
            try generalize Int32.toInt x = z4 at *
            omega
          have v_79 : k.toInt < (ct x.toNatClampNeg).toInt := by
            have q_80 := i_nle c_32
            try have hq7 := hct x.toNatClampNeg (cl_lt (by omega) (by omega))
            try generalize Int32.toInt (ct x.toNatClampNeg) = z0 at *
            try generalize Int32.toInt wlz = z1 at *
            try generalize Int32.toInt li = z2 at *
            try generalize Int32.toInt k = z3 at *
            try generalize Int32.toInt x = z4 at *
            omega
          have v_81 : 3 * ((ct x.toNatClampNeg).toInt - k.toInt) + (200 - li.toInt) < ((n : Nat) : Int) := by
            have q_82 := i_nle c_32
            try have hq7 := hct x.toNatClampNeg (cl_lt (by omega) (by omega))
            try generalize Int32.toInt (ct x.toNatClampNeg) = z0 at *
            try generalize Int32.toInt wlz = z1 at *
            try generalize Int32.toInt li = z2 at *
            try generalize Int32.toInt k = z3 at *
            try generalize Int32.toInt x = z4 at *
            omega
          exact ih_72 (li) (co) (so) (sl) (sc) (nm) (fi) (k) (ftz) (wlz) (wz) _ _ ls hR v_67 v_68 v_69 v_71 v_73 v_75 v_77 v_79 v_81 hP hD hS (lv_sub hl [1, 2, 3, 4, 5, 6, 7, 8, 9, 10, 0] rfl)
      · intro li co so sl sc nm fi k ftz wlz wz H locs ls hR hx0 hx1 hk0 hl0 hl1 hz0 hz1 hk1 hmu hP hD hS hl
        rw [fX9_write_A] at hR
        rw [if_neg (by decide)] at hR
        refine lv_iload_n hx hb dX9_write_72 rfl (lv_at hl 2 rfl) ?_
        refine lv_aload_n hx hb dX9_write_73 rfl (lv_at hl 0 rfl) ?_
        refine va_get (D := (dC, dI)) (ci := 9) (v := .ref a0) (C := RX9) (T := TX9) (N := 17) hx hb hts inc_X9_write_9 hown hG.1 hP 0 rfl rfl 1 (by decide) (hts (.fieldLink RX9 13 "MappingDeskModel" "rows" "[I") (by decide +kernel)) (fun _ h9 => h9) rfl dX9_write_74 ?_
        refine lv_iload hx hb dX9_write_77 (lv_at hl 10 rfl) ?_
        have b_83 : vp_in ((1800 * x) + (6 * k)) 3600 := by
          try have hq7 := hct x.toNatClampNeg (cl_lt (by omega) (by omega))
          have k_84 : (1800 : Int32).toInt = 1800 := by decide
          have t_85 : ((1800 * x)).toInt = 1800 * (x).toInt := by
            have z := ti_mul (a := 1800) (b := x) (by rw [show (1800 : Int32).toInt = 1800 from by decide]; omega) (by rw [show (1800 : Int32).toInt = 1800 from by decide]; omega)
            rw [z, show (1800 : Int32).toInt = 1800 from by decide]
          have k_86 : (6 : Int32).toInt = 6 := by decide
          have t_87 : ((6 * k)).toInt = 6 * (k).toInt := by
            have z := ti_mul (a := 6) (b := k) (by rw [show (6 : Int32).toInt = 6 from by decide]; omega) (by rw [show (6 : Int32).toInt = 6 from by decide]; omega)
            rw [z, show (6 : Int32).toInt = 6 from by decide]
          have t_88 := ti_add (a := (1800 * x)) (b := (6 * k)) (by omega) (by omega)
          refine vin ?_ ?_
          all_goals (try generalize Int32.toInt ((1800 * x) + (6 * k)) = z0 at *; try generalize Int32.toInt (ct x.toNatClampNeg) = z1 at *; try generalize Int32.toInt (1800 * x) = z2 at *; try generalize Int32.toInt (6 * k) = z3 at *; try generalize Int32.toInt (1800 : Int32) = z4 at *; try generalize Int32.toInt wlz = z5 at *; try generalize Int32.toInt li = z6 at *; try generalize Int32.toInt (6 : Int32) = z7 at *; try generalize Int32.toInt k = z8 at *; try generalize Int32.toInt x = z9 at *; omega)
        refine va_iald hx hb hG.1 hP 1 2 rfl rfl b_83 dX9_write_79 ?_
        refine lv_icmp_ge (tgt := 100) hx hb dX9_write_80 (by decide) (fun c_91 => ?_) (fun c_91 => ?_)
        · rw [if_pos c_91] at hR
          refine lv_iload hx hb dX9_write_100 (lv_at hl 8 rfl) ?_
          refine lv_if_ne (tgt := 111) hx hb dX9_write_102 (by decide) (fun c_92 => ?_) (fun c_92 => ?_)
          · rw [if_neg c_92] at hR
            refine lv_iconst (v := 0) hx hb dX9_write_111 (by decide) ?_
            refine lv_istore (lv' := [(8, .int 0), (0, .ref h0), (1, .int x), (2, .int li), (3, .int co), (4, .int so), (5, .int sl), (6, .int sc), (7, .int nm), (9, .int k), (10, .int ((1800 * x) + (6 * k)))]) hx hb dX9_write_112 hl (by decide) rfl (fun ls hl => ?_)
            refine lv_aload_n hx hb dX9_write_114 rfl (lv_at hl 1 rfl) ?_
            refine lv_aload_n hx hb dX9_write_115 rfl (lv_at hl 1 rfl) ?_
            refine va_get (D := (dC, dI)) (ci := 9) (v := .ref a0) (C := RX9) (T := TX9) (N := 17) hx hb hts inc_X9_write_9 hown hG.1 hP 0 rfl rfl 1 (by decide) (hts (.fieldLink RX9 13 "MappingDeskModel" "rows" "[I") (by decide +kernel)) (fun _ h9 => h9) rfl dX9_write_116 ?_
            refine lv_iload hx hb dX9_write_119 (lv_at hl 10 rfl) ?_
            refine lv_iconst (v := 1) hx hb dX9_write_121 (by decide) ?_
            refine lv_iadd hx hb dX9_write_122 ?_
            have b_93 : vp_in (((1800 * x) + (6 * k)) + 1) 3600 := by
              have hq9 := hlin k (by omega) (by omega)
              have q_94 := i_le c_91
              have k_95 : (0 : Int32).toInt = 0 := by decide
              have q_96 := i_ne c_92
              try have hq7 := hct x.toNatClampNeg (cl_lt (by omega) (by omega))
              have k_97 : (1800 : Int32).toInt = 1800 := by decide
              have t_98 : ((1800 * x)).toInt = 1800 * (x).toInt := by
                have z := ti_mul (a := 1800) (b := x) (by rw [show (1800 : Int32).toInt = 1800 from by decide]; omega) (by rw [show (1800 : Int32).toInt = 1800 from by decide]; omega)
                rw [z, show (1800 : Int32).toInt = 1800 from by decide]
              have k_99 : (6 : Int32).toInt = 6 := by decide
              have t_100 : ((6 * k)).toInt = 6 * (k).toInt := by
                have z := ti_mul (a := 6) (b := k) (by rw [show (6 : Int32).toInt = 6 from by decide]; omega) (by rw [show (6 : Int32).toInt = 6 from by decide]; omega)
                rw [z, show (6 : Int32).toInt = 6 from by decide]
              have t_101 := ti_add (a := (1800 * x)) (b := (6 * k)) (by omega) (by omega)
              have k_102 : (1 : Int32).toInt = 1 := by decide
              have t_103 := ti_add (a := ((1800 * x) + (6 * k))) (b := 1) (by omega) (by omega)
              refine vin ?_ ?_
              all_goals (try generalize Int32.toInt (rw ((1800 * x) + (6 * k)).toNatClampNeg) = z0 at *; try generalize Int32.toInt (((1800 * x) + (6 * k)) + 1) = z1 at *; try generalize Int32.toInt ((1800 * x) + (6 * k)) = z2 at *; try generalize Int32.toInt (ct x.toNatClampNeg) = z3 at *; try generalize Int32.toInt (1800 * x) = z4 at *; try generalize Int32.toInt (6 * k) = z5 at *; try generalize Int32.toInt (1800 : Int32) = z6 at *; try generalize Int32.toInt wlz = z7 at *; try generalize Int32.toInt fi = z8 at *; try generalize Int32.toInt li = z9 at *; try generalize Int32.toInt (0 : Int32) = z10 at *; try generalize Int32.toInt (1 : Int32) = z11 at *; try generalize Int32.toInt (6 : Int32) = z12 at *; try generalize Int32.toInt k = z13 at *; try generalize Int32.toInt x = z14 at *; omega)
            refine va_iald hx hb hG.1 hP 1 2 rfl rfl b_93 dX9_write_123 ?_
            refine lv_iload_n hx hb dX9_write_124 rfl (lv_at hl 4 rfl) ?_
            refine lv_isub hx hb dX9_write_125 ?_
            have p_106 : 0 ≤ wlz.toInt := by
              exact hz0
            have p_107 : wlz.toInt ≤ 6000 := by
              exact hz1
            have hPc := hP.sub (ws' := [(h0, .inr (9, [.int 0, .ref a0, .ref a1, .ref a2, .int dc, .ref a3, .int tl, .ref a4, .int xl, .int fo, .int fa, .ref a5, .int mn, .ref a6, .int ftz, .ref a7, .int wlz])), (a7, .inl (cB, 6000, .inl wz))]) [0, 4] rfl
            have hDc := hD.sub (ws' := [(h0, .inr (9, [.int 0, .ref a0, .ref a1, .ref a2, .int dc, .ref a3, .int tl, .ref a4, .int xl, .int fo, .int fa, .ref a5, .int mn, .ref a6, .int ftz, .ref a7, .int wlz])), (a7, .inl (cB, 6000, .inl wz))]) [0, 4] (by decide) rfl
            have hFc := va_free (wc := [(h0, .inr (9, [.int 0, .ref a0, .ref a1, .ref a2, .int dc, .ref a3, .int tl, .ref a4, .int xl, .int fo, .int fa, .ref a5, .int mn, .ref a6, .int ftz, .ref a7, .int wlz])), (a7, .inl (cB, 6000, .inl wz))]) hD hS hA [0, 4] rfl
            refine va_callv (va_runV (As := [.int ((rw (((1800 * x) + (6 * k)) + 1).toNatClampNeg) - co)]) (rest := []) ⟨hx, hb, hml, hown, hts⟩ (c_X9_addNumber l dC dI cB cC cI cJ H.size h0 a0 a1 a2 a3 a4 a5 a6 a7 0 dc tl xl fo fa mn ftz wlz wz ((rw (((1800 * x) + (6 * k)) + 1).toNatClampNeg) - co) p_106 p_107) (cwV 1 hts gX9_write_X9_addNumber rfl rfl rfl (by decide +kernel) ⟨(Nat.le_of_ble_eq_true rfl), (Nat.le_of_ble_eq_true rfl)⟩) ⟨cP_blind, va_recv hG.1 hPc (ci := 9) (q0 := 0) rfl rfl, cP_pre hPc hG hDc⟩ rfl rfl hl.1 rfl (lv_room (Nat.le_of_ble_eq_true rfl)) dX9_write_126 ⟨Nat.le_of_ble_eq_true rfl, Nat.le_of_ble_eq_true rfl⟩) hS (fun q _ h => hFc q h) hFc (fun u t H1 locs ht hvm hw hB hz1 hk1 hS => ?_)
            obtain ⟨hP1, hD1⟩ := hB
            rw [ht] at hP1
            generalize hr_108 : fX9_addNumber 0 dc tl xl fo fa mn ftz wlz wz ((rw (((1800 * x) + (6 * k)) + 1).toNatClampNeg) - co) = r_108 at hP1 hD1 hw
            have er_108_0 := hw
            rw [bnd_eq hr_108] at hR
            obtain ⟨hP, hD⟩ := va_join (wr := [(a0, .inl (cI, 3600, .inl rw)), (a1, .inl (cI, 2, .inl ct)), (a4, .inl (cB, 6000, .inl tx))]) (w1 := [(h0, .inr (9, [.int 0, .ref a0, .ref a1, .ref a2, .int dc, .ref a3, .int tl, .ref a4, .int xl, .int fo, .int fa, .ref a5, .int mn, .ref a6, .int r_108.1, .ref a7, .int r_108.2.1])), (a7, .inl (cB, 6000, .inl r_108.2.2))]) hP hD [0, 4] [1, 2, 3] rfl rfl (by decide) (by decide) hk1 hFc hP1 hD1
            generalize H1 = H at hP hS ⊢
            have hP := hP.sub (ws' := [(h0, .inr (9, [.int 0, .ref a0, .ref a1, .ref a2, .int dc, .ref a3, .int tl, .ref a4, .int xl, .int fo, .int fa, .ref a5, .int mn, .ref a6, .int r_108.1, .ref a7, .int r_108.2.1])), (a0, .inl (cI, 3600, .inl rw)), (a1, .inl (cI, 2, .inl ct)), (a4, .inl (cB, 6000, .inl tx)), (a7, .inl (cB, 6000, .inl r_108.2.2))]) [3, 0, 1, 2, 4] rfl
            have hD := hD.sub (ws' := [(h0, .inr (9, [.int 0, .ref a0, .ref a1, .ref a2, .int dc, .ref a3, .int tl, .ref a4, .int xl, .int fo, .int fa, .ref a5, .int mn, .ref a6, .int r_108.1, .ref a7, .int r_108.2.1])), (a0, .inl (cI, 3600, .inl rw)), (a1, .inl (cI, 2, .inl ct)), (a4, .inl (cB, 6000, .inl tx)), (a7, .inl (cB, 6000, .inl r_108.2.2))]) [3, 0, 1, 2, 4] (by decide) rfl
            refine lv_aload_n hx hb dX9_write_129 rfl (lv_at hl 1 rfl) ?_
            refine va_get (D := (dC, dI)) (ci := 9) (v := .ref a0) (C := RX9) (T := TX9) (N := 17) hx hb hts inc_X9_write_9 hown hG.1 hP 0 rfl rfl 1 (by decide) (hts (.fieldLink RX9 13 "MappingDeskModel" "rows" "[I") (by decide +kernel)) (fun _ h9 => h9) rfl dX9_write_130 ?_
            refine lv_iload hx hb dX9_write_133 (lv_at hl 10 rfl) ?_
            refine lv_iconst (v := 1) hx hb dX9_write_135 (by decide) ?_
            refine lv_iadd hx hb dX9_write_136 ?_
            have b_109 : vp_in (((1800 * x) + (6 * k)) + 1) 3600 := by
              have hq9 := hlin k (by omega) (by omega)
              have q_110 := i_le c_91
              have k_111 : (0 : Int32).toInt = 0 := by decide
              have q_112 := i_ne c_92
              try have hq7 := hct x.toNatClampNeg (cl_lt (by omega) (by omega))
              have k_113 : (1800 : Int32).toInt = 1800 := by decide
              have t_114 : ((1800 * x)).toInt = 1800 * (x).toInt := by
                have z := ti_mul (a := 1800) (b := x) (by rw [show (1800 : Int32).toInt = 1800 from by decide]; omega) (by rw [show (1800 : Int32).toInt = 1800 from by decide]; omega)
                rw [z, show (1800 : Int32).toInt = 1800 from by decide]
              have k_115 : (6 : Int32).toInt = 6 := by decide
              have t_116 : ((6 * k)).toInt = 6 * (k).toInt := by
                have z := ti_mul (a := 6) (b := k) (by rw [show (6 : Int32).toInt = 6 from by decide]; omega) (by rw [show (6 : Int32).toInt = 6 from by decide]; omega)
                rw [z, show (6 : Int32).toInt = 6 from by decide]
              have t_117 := ti_add (a := (1800 * x)) (b := (6 * k)) (by omega) (by omega)
              have k_118 : (1 : Int32).toInt = 1 := by decide
              have t_119 := ti_add (a := ((1800 * x) + (6 * k))) (b := 1) (by omega) (by omega)
              refine vin ?_ ?_
              all_goals (try generalize Int32.toInt (rw ((1800 * x) + (6 * k)).toNatClampNeg) = z0 at *; try generalize Int32.toInt (((1800 * x) + (6 * k)) + 1) = z1 at *; try generalize Int32.toInt ((1800 * x) + (6 * k)) = z2 at *; try generalize Int32.toInt (ct x.toNatClampNeg) = z3 at *; try generalize Int32.toInt (1800 * x) = z4 at *; try generalize Int32.toInt r_108.2.1 = z5 at *; try generalize Int32.toInt (6 * k) = z6 at *; try generalize Int32.toInt (1800 : Int32) = z7 at *; try generalize Int32.toInt wlz = z8 at *; try generalize Int32.toInt fi = z9 at *; try generalize Int32.toInt li = z10 at *; try generalize Int32.toInt (0 : Int32) = z11 at *; try generalize Int32.toInt (1 : Int32) = z12 at *; try generalize Int32.toInt (6 : Int32) = z13 at *; try generalize Int32.toInt k = z14 at *; try generalize Int32.toInt x = z15 at *; omega)
            refine va_iald hx hb hG.1 hP 1 2 rfl rfl b_109 dX9_write_137 ?_
            refine lv_istore_n (lv' := [(3, .int (rw (((1800 * x) + (6 * k)) + 1).toNatClampNeg)), (8, .int 0), (0, .ref h0), (1, .int x), (2, .int li), (4, .int so), (5, .int sl), (6, .int sc), (7, .int nm), (9, .int k), (10, .int ((1800 * x) + (6 * k)))]) hx hb dX9_write_138 rfl hl (by decide) rfl (fun ls hl => ?_)
            refine lv_aload_n hx hb dX9_write_139 rfl (lv_at hl 2 rfl) ?_
            refine va_get (D := (dC, dI)) (ci := 9) (v := .ref a0) (C := RX9) (T := TX9) (N := 17) hx hb hts inc_X9_write_9 hown hG.1 hP 0 rfl rfl 1 (by decide) (hts (.fieldLink RX9 13 "MappingDeskModel" "rows" "[I") (by decide +kernel)) (fun _ h9 => h9) rfl dX9_write_140 ?_
            refine lv_iload hx hb dX9_write_143 (lv_at hl 10 rfl) ?_
            refine lv_iconst (v := 2) hx hb dX9_write_145 (by decide) ?_
            refine lv_iadd hx hb dX9_write_146 ?_
            have b_122 : vp_in (((1800 * x) + (6 * k)) + 2) 3600 := by
              have hq9 := hlin k (by omega) (by omega)
              have q_123 := i_le c_91
              have k_124 : (0 : Int32).toInt = 0 := by decide
              have q_125 := i_ne c_92
              try have hq7 := hct x.toNatClampNeg (cl_lt (by omega) (by omega))
              have k_126 : (1800 : Int32).toInt = 1800 := by decide
              have t_127 : ((1800 * x)).toInt = 1800 * (x).toInt := by
                have z := ti_mul (a := 1800) (b := x) (by rw [show (1800 : Int32).toInt = 1800 from by decide]; omega) (by rw [show (1800 : Int32).toInt = 1800 from by decide]; omega)
                rw [z, show (1800 : Int32).toInt = 1800 from by decide]
              have k_128 : (6 : Int32).toInt = 6 := by decide
              have t_129 : ((6 * k)).toInt = 6 * (k).toInt := by
                have z := ti_mul (a := 6) (b := k) (by rw [show (6 : Int32).toInt = 6 from by decide]; omega) (by rw [show (6 : Int32).toInt = 6 from by decide]; omega)
                rw [z, show (6 : Int32).toInt = 6 from by decide]
              have t_130 := ti_add (a := (1800 * x)) (b := (6 * k)) (by omega) (by omega)
              have k_131 : (2 : Int32).toInt = 2 := by decide
              have t_132 := ti_add (a := ((1800 * x) + (6 * k))) (b := 2) (by omega) (by omega)
              refine vin ?_ ?_
              all_goals (try generalize Int32.toInt (rw ((1800 * x) + (6 * k)).toNatClampNeg) = z0 at *; try generalize Int32.toInt (((1800 * x) + (6 * k)) + 2) = z1 at *; try generalize Int32.toInt ((1800 * x) + (6 * k)) = z2 at *; try generalize Int32.toInt (ct x.toNatClampNeg) = z3 at *; try generalize Int32.toInt (1800 * x) = z4 at *; try generalize Int32.toInt r_108.2.1 = z5 at *; try generalize Int32.toInt (6 * k) = z6 at *; try generalize Int32.toInt (1800 : Int32) = z7 at *; try generalize Int32.toInt wlz = z8 at *; try generalize Int32.toInt fi = z9 at *; try generalize Int32.toInt li = z10 at *; try generalize Int32.toInt (0 : Int32) = z11 at *; try generalize Int32.toInt (2 : Int32) = z12 at *; try generalize Int32.toInt (6 : Int32) = z13 at *; try generalize Int32.toInt k = z14 at *; try generalize Int32.toInt x = z15 at *; omega)
            refine va_iald hx hb hG.1 hP 1 2 rfl rfl b_122 dX9_write_147 ?_
            refine lv_if_ge (tgt := 154) hx hb dX9_write_148 (by decide) (fun c_135 => ?_) (fun c_135 => ?_)
            · rw [if_pos c_135] at hR
              refine lv_aload_n hx hb dX9_write_154 rfl (lv_at hl 2 rfl) ?_
              refine lv_aload_n hx hb dX9_write_155 rfl (lv_at hl 2 rfl) ?_
              refine va_get (D := (dC, dI)) (ci := 9) (v := .ref a0) (C := RX9) (T := TX9) (N := 17) hx hb hts inc_X9_write_9 hown hG.1 hP 0 rfl rfl 1 (by decide) (hts (.fieldLink RX9 13 "MappingDeskModel" "rows" "[I") (by decide +kernel)) (fun _ h9 => h9) rfl dX9_write_156 ?_
              refine lv_iload hx hb dX9_write_159 (lv_at hl 10 rfl) ?_
              refine lv_iconst (v := 2) hx hb dX9_write_161 (by decide) ?_
              refine lv_iadd hx hb dX9_write_162 ?_
              have b_136 : vp_in (((1800 * x) + (6 * k)) + 2) 3600 := by
                have hq9 := hlin k (by omega) (by omega)
                have q_137 := i_le c_91
                have k_138 : (0 : Int32).toInt = 0 := by decide
                have q_139 := i_ne c_92
                have q_140 := i_le c_135
                try have hq7 := hct x.toNatClampNeg (cl_lt (by omega) (by omega))
                have k_141 : (1800 : Int32).toInt = 1800 := by decide
                have t_142 : ((1800 * x)).toInt = 1800 * (x).toInt := by
                  have z := ti_mul (a := 1800) (b := x) (by rw [show (1800 : Int32).toInt = 1800 from by decide]; omega) (by rw [show (1800 : Int32).toInt = 1800 from by decide]; omega)
                  rw [z, show (1800 : Int32).toInt = 1800 from by decide]
                have k_143 : (6 : Int32).toInt = 6 := by decide
                have t_144 : ((6 * k)).toInt = 6 * (k).toInt := by
                  have z := ti_mul (a := 6) (b := k) (by rw [show (6 : Int32).toInt = 6 from by decide]; omega) (by rw [show (6 : Int32).toInt = 6 from by decide]; omega)
                  rw [z, show (6 : Int32).toInt = 6 from by decide]
                have t_145 := ti_add (a := (1800 * x)) (b := (6 * k)) (by omega) (by omega)
                have k_146 : (2 : Int32).toInt = 2 := by decide
                have t_147 := ti_add (a := ((1800 * x) + (6 * k))) (b := 2) (by omega) (by omega)
                refine vin ?_ ?_
                all_goals (try generalize Int32.toInt (rw (((1800 * x) + (6 * k)) + 2).toNatClampNeg) = z0 at *; try generalize Int32.toInt (rw ((1800 * x) + (6 * k)).toNatClampNeg) = z1 at *; try generalize Int32.toInt (((1800 * x) + (6 * k)) + 2) = z2 at *; try generalize Int32.toInt ((1800 * x) + (6 * k)) = z3 at *; try generalize Int32.toInt (ct x.toNatClampNeg) = z4 at *; try generalize Int32.toInt (1800 * x) = z5 at *; try generalize Int32.toInt r_108.2.1 = z6 at *; try generalize Int32.toInt (6 * k) = z7 at *; try generalize Int32.toInt (1800 : Int32) = z8 at *; try generalize Int32.toInt wlz = z9 at *; try generalize Int32.toInt fi = z10 at *; try generalize Int32.toInt li = z11 at *; try generalize Int32.toInt (0 : Int32) = z12 at *; try generalize Int32.toInt (2 : Int32) = z13 at *; try generalize Int32.toInt (6 : Int32) = z14 at *; try generalize Int32.toInt k = z15 at *; try generalize Int32.toInt x = z16 at *; omega)
              refine va_iald hx hb hG.1 hP 1 2 rfl rfl b_136 dX9_write_163 ?_
              refine lv_iload hx hb dX9_write_164 (lv_at hl 5 rfl) ?_
              refine lv_isub hx hb dX9_write_166 ?_
              have p_150 : 0 ≤ r_108.2.1.toInt := by
                have hq9 := hlin k (by omega) (by omega)
                have q_151 := i_le c_91
                have k_152 : (0 : Int32).toInt = 0 := by decide
                have q_153 := i_ne c_92
                have q_154 := i_le c_135
                try have hq7 := hct x.toNatClampNeg (cl_lt (by omega) (by omega))
                try generalize Int32.toInt (rw (((1800 * x) + (6 * k)) + 2).toNatClampNeg) = z0 at *
                try generalize Int32.toInt (rw ((1800 * x) + (6 * k)).toNatClampNeg) = z1 at *
                try generalize Int32.toInt (ct x.toNatClampNeg) = z2 at *
                try generalize Int32.toInt r_108.2.1 = z3 at *
                try generalize Int32.toInt wlz = z4 at *
                try generalize Int32.toInt fi = z5 at *
                try generalize Int32.toInt li = z6 at *
                try generalize Int32.toInt (0 : Int32) = z7 at *
                try generalize Int32.toInt k = z8 at *
                try generalize Int32.toInt x = z9 at *
                first | omega | exact ⟨by omega, by omega⟩
              have p_155 : r_108.2.1.toInt ≤ 6000 := by
                have hq9 := hlin k (by omega) (by omega)
                have q_156 := i_le c_91
                have k_157 : (0 : Int32).toInt = 0 := by decide
                have q_158 := i_ne c_92
                have q_159 := i_le c_135
                try have hq7 := hct x.toNatClampNeg (cl_lt (by omega) (by omega))
                try generalize Int32.toInt (rw (((1800 * x) + (6 * k)) + 2).toNatClampNeg) = z0 at *
                try generalize Int32.toInt (rw ((1800 * x) + (6 * k)).toNatClampNeg) = z1 at *
                try generalize Int32.toInt (ct x.toNatClampNeg) = z2 at *
                try generalize Int32.toInt r_108.2.1 = z3 at *
                try generalize Int32.toInt wlz = z4 at *
                try generalize Int32.toInt fi = z5 at *
                try generalize Int32.toInt li = z6 at *
                try generalize Int32.toInt (0 : Int32) = z7 at *
                try generalize Int32.toInt k = z8 at *
                try generalize Int32.toInt x = z9 at *
                first | omega | exact ⟨by omega, by omega⟩
              have hPc := hP.sub (ws' := [(h0, .inr (9, [.int 0, .ref a0, .ref a1, .ref a2, .int dc, .ref a3, .int tl, .ref a4, .int xl, .int fo, .int fa, .ref a5, .int mn, .ref a6, .int r_108.1, .ref a7, .int r_108.2.1])), (a7, .inl (cB, 6000, .inl r_108.2.2))]) [0, 4] rfl
              have hDc := hD.sub (ws' := [(h0, .inr (9, [.int 0, .ref a0, .ref a1, .ref a2, .int dc, .ref a3, .int tl, .ref a4, .int xl, .int fo, .int fa, .ref a5, .int mn, .ref a6, .int r_108.1, .ref a7, .int r_108.2.1])), (a7, .inl (cB, 6000, .inl r_108.2.2))]) [0, 4] (by decide) rfl
              have hFc := va_free (wc := [(h0, .inr (9, [.int 0, .ref a0, .ref a1, .ref a2, .int dc, .ref a3, .int tl, .ref a4, .int xl, .int fo, .int fa, .ref a5, .int mn, .ref a6, .int r_108.1, .ref a7, .int r_108.2.1])), (a7, .inl (cB, 6000, .inl r_108.2.2))]) hD hS hA [0, 4] rfl
              refine va_callv (va_runV (As := [.int ((rw (((1800 * x) + (6 * k)) + 2).toNatClampNeg) - so)]) (rest := []) ⟨hx, hb, hml, hown, hts⟩ (c_X9_addNumber l dC dI cB cC cI cJ H.size h0 a0 a1 a2 a3 a4 a5 a6 a7 0 dc tl xl fo fa mn r_108.1 r_108.2.1 r_108.2.2 ((rw (((1800 * x) + (6 * k)) + 2).toNatClampNeg) - so) p_150 p_155) (cwV 1 hts gX9_write_X9_addNumber rfl rfl rfl (by decide +kernel) ⟨(Nat.le_of_ble_eq_true rfl), (Nat.le_of_ble_eq_true rfl)⟩) ⟨cP_blind, va_recv hG.1 hPc (ci := 9) (q0 := 0) rfl rfl, cP_pre hPc hG hDc⟩ rfl rfl hl.1 rfl (lv_room (Nat.le_of_ble_eq_true rfl)) dX9_write_167 ⟨Nat.le_of_ble_eq_true rfl, Nat.le_of_ble_eq_true rfl⟩) hS (fun q _ h => hFc q h) hFc (fun u t H1 locs ht hvm hw hB hz1 hk1 hS => ?_)
              obtain ⟨hP1, hD1⟩ := hB
              rw [ht] at hP1
              generalize hr_160 : fX9_addNumber 0 dc tl xl fo fa mn r_108.1 r_108.2.1 r_108.2.2 ((rw (((1800 * x) + (6 * k)) + 2).toNatClampNeg) - so) = r_160 at hP1 hD1 hw
              have er_160_0 := hw
              rw [bnd_eq hr_160] at hR
              obtain ⟨hP, hD⟩ := va_join (wr := [(a0, .inl (cI, 3600, .inl rw)), (a1, .inl (cI, 2, .inl ct)), (a4, .inl (cB, 6000, .inl tx))]) (w1 := [(h0, .inr (9, [.int 0, .ref a0, .ref a1, .ref a2, .int dc, .ref a3, .int tl, .ref a4, .int xl, .int fo, .int fa, .ref a5, .int mn, .ref a6, .int r_160.1, .ref a7, .int r_160.2.1])), (a7, .inl (cB, 6000, .inl r_160.2.2))]) hP hD [0, 4] [1, 2, 3] rfl rfl (by decide) (by decide) hk1 hFc hP1 hD1
              generalize H1 = H at hP hS ⊢
              have hP := hP.sub (ws' := [(h0, .inr (9, [.int 0, .ref a0, .ref a1, .ref a2, .int dc, .ref a3, .int tl, .ref a4, .int xl, .int fo, .int fa, .ref a5, .int mn, .ref a6, .int r_160.1, .ref a7, .int r_160.2.1])), (a0, .inl (cI, 3600, .inl rw)), (a1, .inl (cI, 2, .inl ct)), (a4, .inl (cB, 6000, .inl tx)), (a7, .inl (cB, 6000, .inl r_160.2.2))]) [3, 0, 1, 2, 4] rfl
              have hD := hD.sub (ws' := [(h0, .inr (9, [.int 0, .ref a0, .ref a1, .ref a2, .int dc, .ref a3, .int tl, .ref a4, .int xl, .int fo, .int fa, .ref a5, .int mn, .ref a6, .int r_160.1, .ref a7, .int r_160.2.1])), (a0, .inl (cI, 3600, .inl rw)), (a1, .inl (cI, 2, .inl ct)), (a4, .inl (cB, 6000, .inl tx)), (a7, .inl (cB, 6000, .inl r_160.2.2))]) [3, 0, 1, 2, 4] (by decide) rfl
              refine lv_aload_n hx hb dX9_write_170 rfl (lv_at hl 2 rfl) ?_
              refine lv_aload_n hx hb dX9_write_171 rfl (lv_at hl 2 rfl) ?_
              refine va_get (D := (dC, dI)) (ci := 9) (v := .ref a0) (C := RX9) (T := TX9) (N := 17) hx hb hts inc_X9_write_9 hown hG.1 hP 0 rfl rfl 1 (by decide) (hts (.fieldLink RX9 13 "MappingDeskModel" "rows" "[I") (by decide +kernel)) (fun _ h9 => h9) rfl dX9_write_172 ?_
              refine lv_iload hx hb dX9_write_175 (lv_at hl 10 rfl) ?_
              refine lv_iconst (v := 3) hx hb dX9_write_177 (by decide) ?_
              refine lv_iadd hx hb dX9_write_178 ?_
              have b_161 : vp_in (((1800 * x) + (6 * k)) + 3) 3600 := by
                have hq9 := hlin k (by omega) (by omega)
                have q_162 := i_le c_91
                have k_163 : (0 : Int32).toInt = 0 := by decide
                have q_164 := i_ne c_92
                have q_165 := i_le c_135
                try have hq7 := hct x.toNatClampNeg (cl_lt (by omega) (by omega))
                have k_166 : (1800 : Int32).toInt = 1800 := by decide
                have t_167 : ((1800 * x)).toInt = 1800 * (x).toInt := by
                  have z := ti_mul (a := 1800) (b := x) (by rw [show (1800 : Int32).toInt = 1800 from by decide]; omega) (by rw [show (1800 : Int32).toInt = 1800 from by decide]; omega)
                  rw [z, show (1800 : Int32).toInt = 1800 from by decide]
                have k_168 : (6 : Int32).toInt = 6 := by decide
                have t_169 : ((6 * k)).toInt = 6 * (k).toInt := by
                  have z := ti_mul (a := 6) (b := k) (by rw [show (6 : Int32).toInt = 6 from by decide]; omega) (by rw [show (6 : Int32).toInt = 6 from by decide]; omega)
                  rw [z, show (6 : Int32).toInt = 6 from by decide]
                have t_170 := ti_add (a := (1800 * x)) (b := (6 * k)) (by omega) (by omega)
                have k_171 : (3 : Int32).toInt = 3 := by decide
                have t_172 := ti_add (a := ((1800 * x) + (6 * k))) (b := 3) (by omega) (by omega)
                refine vin ?_ ?_
                all_goals (try generalize Int32.toInt (rw (((1800 * x) + (6 * k)) + 2).toNatClampNeg) = z0 at *; try generalize Int32.toInt (rw ((1800 * x) + (6 * k)).toNatClampNeg) = z1 at *; try generalize Int32.toInt (((1800 * x) + (6 * k)) + 3) = z2 at *; try generalize Int32.toInt ((1800 * x) + (6 * k)) = z3 at *; try generalize Int32.toInt (ct x.toNatClampNeg) = z4 at *; try generalize Int32.toInt (1800 * x) = z5 at *; try generalize Int32.toInt r_108.2.1 = z6 at *; try generalize Int32.toInt r_160.2.1 = z7 at *; try generalize Int32.toInt (6 * k) = z8 at *; try generalize Int32.toInt (1800 : Int32) = z9 at *; try generalize Int32.toInt wlz = z10 at *; try generalize Int32.toInt fi = z11 at *; try generalize Int32.toInt li = z12 at *; try generalize Int32.toInt (0 : Int32) = z13 at *; try generalize Int32.toInt (3 : Int32) = z14 at *; try generalize Int32.toInt (6 : Int32) = z15 at *; try generalize Int32.toInt k = z16 at *; try generalize Int32.toInt x = z17 at *; omega)
              refine va_iald hx hb hG.1 hP 1 2 rfl rfl b_161 dX9_write_179 ?_
              refine lv_iload hx hb dX9_write_180 (lv_at hl 6 rfl) ?_
              refine lv_isub hx hb dX9_write_182 ?_
              have p_175 : 0 ≤ r_160.2.1.toInt := by
                have hq9 := hlin k (by omega) (by omega)
                have q_176 := i_le c_91
                have k_177 : (0 : Int32).toInt = 0 := by decide
                have q_178 := i_ne c_92
                have q_179 := i_le c_135
                try have hq7 := hct x.toNatClampNeg (cl_lt (by omega) (by omega))
                try generalize Int32.toInt (rw (((1800 * x) + (6 * k)) + 2).toNatClampNeg) = z0 at *
                try generalize Int32.toInt (rw ((1800 * x) + (6 * k)).toNatClampNeg) = z1 at *
                try generalize Int32.toInt (ct x.toNatClampNeg) = z2 at *
                try generalize Int32.toInt r_108.2.1 = z3 at *
                try generalize Int32.toInt r_160.2.1 = z4 at *
                try generalize Int32.toInt wlz = z5 at *
                try generalize Int32.toInt fi = z6 at *
                try generalize Int32.toInt li = z7 at *
                try generalize Int32.toInt (0 : Int32) = z8 at *
                try generalize Int32.toInt k = z9 at *
                try generalize Int32.toInt x = z10 at *
                first | omega | exact ⟨by omega, by omega⟩
              have p_180 : r_160.2.1.toInt ≤ 6000 := by
                have hq9 := hlin k (by omega) (by omega)
                have q_181 := i_le c_91
                have k_182 : (0 : Int32).toInt = 0 := by decide
                have q_183 := i_ne c_92
                have q_184 := i_le c_135
                try have hq7 := hct x.toNatClampNeg (cl_lt (by omega) (by omega))
                try generalize Int32.toInt (rw (((1800 * x) + (6 * k)) + 2).toNatClampNeg) = z0 at *
                try generalize Int32.toInt (rw ((1800 * x) + (6 * k)).toNatClampNeg) = z1 at *
                try generalize Int32.toInt (ct x.toNatClampNeg) = z2 at *
                try generalize Int32.toInt r_108.2.1 = z3 at *
                try generalize Int32.toInt r_160.2.1 = z4 at *
                try generalize Int32.toInt wlz = z5 at *
                try generalize Int32.toInt fi = z6 at *
                try generalize Int32.toInt li = z7 at *
                try generalize Int32.toInt (0 : Int32) = z8 at *
                try generalize Int32.toInt k = z9 at *
                try generalize Int32.toInt x = z10 at *
                first | omega | exact ⟨by omega, by omega⟩
              have hPc := hP.sub (ws' := [(h0, .inr (9, [.int 0, .ref a0, .ref a1, .ref a2, .int dc, .ref a3, .int tl, .ref a4, .int xl, .int fo, .int fa, .ref a5, .int mn, .ref a6, .int r_160.1, .ref a7, .int r_160.2.1])), (a7, .inl (cB, 6000, .inl r_160.2.2))]) [0, 4] rfl
              have hDc := hD.sub (ws' := [(h0, .inr (9, [.int 0, .ref a0, .ref a1, .ref a2, .int dc, .ref a3, .int tl, .ref a4, .int xl, .int fo, .int fa, .ref a5, .int mn, .ref a6, .int r_160.1, .ref a7, .int r_160.2.1])), (a7, .inl (cB, 6000, .inl r_160.2.2))]) [0, 4] (by decide) rfl
              have hFc := va_free (wc := [(h0, .inr (9, [.int 0, .ref a0, .ref a1, .ref a2, .int dc, .ref a3, .int tl, .ref a4, .int xl, .int fo, .int fa, .ref a5, .int mn, .ref a6, .int r_160.1, .ref a7, .int r_160.2.1])), (a7, .inl (cB, 6000, .inl r_160.2.2))]) hD hS hA [0, 4] rfl
              refine va_callv (va_runV (As := [.int ((rw (((1800 * x) + (6 * k)) + 3).toNatClampNeg) - sl)]) (rest := []) ⟨hx, hb, hml, hown, hts⟩ (c_X9_addNumber l dC dI cB cC cI cJ H.size h0 a0 a1 a2 a3 a4 a5 a6 a7 0 dc tl xl fo fa mn r_160.1 r_160.2.1 r_160.2.2 ((rw (((1800 * x) + (6 * k)) + 3).toNatClampNeg) - sl) p_175 p_180) (cwV 1 hts gX9_write_X9_addNumber rfl rfl rfl (by decide +kernel) ⟨(Nat.le_of_ble_eq_true rfl), (Nat.le_of_ble_eq_true rfl)⟩) ⟨cP_blind, va_recv hG.1 hPc (ci := 9) (q0 := 0) rfl rfl, cP_pre hPc hG hDc⟩ rfl rfl hl.1 rfl (lv_room (Nat.le_of_ble_eq_true rfl)) dX9_write_183 ⟨Nat.le_of_ble_eq_true rfl, Nat.le_of_ble_eq_true rfl⟩) hS (fun q _ h => hFc q h) hFc (fun u t H1 locs ht hvm hw hB hz1 hk1 hS => ?_)
              obtain ⟨hP1, hD1⟩ := hB
              rw [ht] at hP1
              generalize hr_185 : fX9_addNumber 0 dc tl xl fo fa mn r_160.1 r_160.2.1 r_160.2.2 ((rw (((1800 * x) + (6 * k)) + 3).toNatClampNeg) - sl) = r_185 at hP1 hD1 hw
              have er_185_0 := hw
              rw [bnd_eq hr_185] at hR
              obtain ⟨hP, hD⟩ := va_join (wr := [(a0, .inl (cI, 3600, .inl rw)), (a1, .inl (cI, 2, .inl ct)), (a4, .inl (cB, 6000, .inl tx))]) (w1 := [(h0, .inr (9, [.int 0, .ref a0, .ref a1, .ref a2, .int dc, .ref a3, .int tl, .ref a4, .int xl, .int fo, .int fa, .ref a5, .int mn, .ref a6, .int r_185.1, .ref a7, .int r_185.2.1])), (a7, .inl (cB, 6000, .inl r_185.2.2))]) hP hD [0, 4] [1, 2, 3] rfl rfl (by decide) (by decide) hk1 hFc hP1 hD1
              generalize H1 = H at hP hS ⊢
              have hP := hP.sub (ws' := [(h0, .inr (9, [.int 0, .ref a0, .ref a1, .ref a2, .int dc, .ref a3, .int tl, .ref a4, .int xl, .int fo, .int fa, .ref a5, .int mn, .ref a6, .int r_185.1, .ref a7, .int r_185.2.1])), (a0, .inl (cI, 3600, .inl rw)), (a1, .inl (cI, 2, .inl ct)), (a4, .inl (cB, 6000, .inl tx)), (a7, .inl (cB, 6000, .inl r_185.2.2))]) [3, 0, 1, 2, 4] rfl
              have hD := hD.sub (ws' := [(h0, .inr (9, [.int 0, .ref a0, .ref a1, .ref a2, .int dc, .ref a3, .int tl, .ref a4, .int xl, .int fo, .int fa, .ref a5, .int mn, .ref a6, .int r_185.1, .ref a7, .int r_185.2.1])), (a0, .inl (cI, 3600, .inl rw)), (a1, .inl (cI, 2, .inl ct)), (a4, .inl (cB, 6000, .inl tx)), (a7, .inl (cB, 6000, .inl r_185.2.2))]) [3, 0, 1, 2, 4] (by decide) rfl
              refine lv_aload_n hx hb dX9_write_186 rfl (lv_at hl 2 rfl) ?_
              refine lv_aload_n hx hb dX9_write_187 rfl (lv_at hl 2 rfl) ?_
              refine va_get (D := (dC, dI)) (ci := 9) (v := .ref a0) (C := RX9) (T := TX9) (N := 17) hx hb hts inc_X9_write_9 hown hG.1 hP 0 rfl rfl 1 (by decide) (hts (.fieldLink RX9 13 "MappingDeskModel" "rows" "[I") (by decide +kernel)) (fun _ h9 => h9) rfl dX9_write_188 ?_
              refine lv_iload hx hb dX9_write_191 (lv_at hl 10 rfl) ?_
              refine lv_iconst (v := 4) hx hb dX9_write_193 (by decide) ?_
              refine lv_iadd hx hb dX9_write_194 ?_
              have b_186 : vp_in (((1800 * x) + (6 * k)) + 4) 3600 := by
                have hq9 := hlin k (by omega) (by omega)
                have q_187 := i_le c_91
                have k_188 : (0 : Int32).toInt = 0 := by decide
                have q_189 := i_ne c_92
                have q_190 := i_le c_135
                try have hq7 := hct x.toNatClampNeg (cl_lt (by omega) (by omega))
                have k_191 : (1800 : Int32).toInt = 1800 := by decide
                have t_192 : ((1800 * x)).toInt = 1800 * (x).toInt := by
                  have z := ti_mul (a := 1800) (b := x) (by rw [show (1800 : Int32).toInt = 1800 from by decide]; omega) (by rw [show (1800 : Int32).toInt = 1800 from by decide]; omega)
                  rw [z, show (1800 : Int32).toInt = 1800 from by decide]
                have k_193 : (6 : Int32).toInt = 6 := by decide
                have t_194 : ((6 * k)).toInt = 6 * (k).toInt := by
                  have z := ti_mul (a := 6) (b := k) (by rw [show (6 : Int32).toInt = 6 from by decide]; omega) (by rw [show (6 : Int32).toInt = 6 from by decide]; omega)
                  rw [z, show (6 : Int32).toInt = 6 from by decide]
                have t_195 := ti_add (a := (1800 * x)) (b := (6 * k)) (by omega) (by omega)
                have k_196 : (4 : Int32).toInt = 4 := by decide
                have t_197 := ti_add (a := ((1800 * x) + (6 * k))) (b := 4) (by omega) (by omega)
                refine vin ?_ ?_
                all_goals (try generalize Int32.toInt (rw (((1800 * x) + (6 * k)) + 2).toNatClampNeg) = z0 at *; try generalize Int32.toInt (rw ((1800 * x) + (6 * k)).toNatClampNeg) = z1 at *; try generalize Int32.toInt (((1800 * x) + (6 * k)) + 4) = z2 at *; try generalize Int32.toInt ((1800 * x) + (6 * k)) = z3 at *; try generalize Int32.toInt (ct x.toNatClampNeg) = z4 at *; try generalize Int32.toInt (1800 * x) = z5 at *; try generalize Int32.toInt r_108.2.1 = z6 at *; try generalize Int32.toInt r_160.2.1 = z7 at *; try generalize Int32.toInt r_185.2.1 = z8 at *; try generalize Int32.toInt (6 * k) = z9 at *; try generalize Int32.toInt (1800 : Int32) = z10 at *; try generalize Int32.toInt wlz = z11 at *; try generalize Int32.toInt fi = z12 at *; try generalize Int32.toInt li = z13 at *; try generalize Int32.toInt (0 : Int32) = z14 at *; try generalize Int32.toInt (4 : Int32) = z15 at *; try generalize Int32.toInt (6 : Int32) = z16 at *; try generalize Int32.toInt k = z17 at *; try generalize Int32.toInt x = z18 at *; omega)
              refine va_iald hx hb hG.1 hP 1 2 rfl rfl b_186 dX9_write_195 ?_
              refine lv_iload hx hb dX9_write_196 (lv_at hl 7 rfl) ?_
              refine lv_isub hx hb dX9_write_198 ?_
              have p_200 : 0 ≤ r_185.2.1.toInt := by
                have hq9 := hlin k (by omega) (by omega)
                have q_201 := i_le c_91
                have k_202 : (0 : Int32).toInt = 0 := by decide
                have q_203 := i_ne c_92
                have q_204 := i_le c_135
                try have hq7 := hct x.toNatClampNeg (cl_lt (by omega) (by omega))
                try generalize Int32.toInt (rw (((1800 * x) + (6 * k)) + 2).toNatClampNeg) = z0 at *
                try generalize Int32.toInt (rw ((1800 * x) + (6 * k)).toNatClampNeg) = z1 at *
                try generalize Int32.toInt (ct x.toNatClampNeg) = z2 at *
                try generalize Int32.toInt r_108.2.1 = z3 at *
                try generalize Int32.toInt r_160.2.1 = z4 at *
                try generalize Int32.toInt r_185.2.1 = z5 at *
                try generalize Int32.toInt wlz = z6 at *
                try generalize Int32.toInt fi = z7 at *
                try generalize Int32.toInt li = z8 at *
                try generalize Int32.toInt (0 : Int32) = z9 at *
                try generalize Int32.toInt k = z10 at *
                try generalize Int32.toInt x = z11 at *
                first | omega | exact ⟨by omega, by omega⟩
              have p_205 : r_185.2.1.toInt ≤ 6000 := by
                have hq9 := hlin k (by omega) (by omega)
                have q_206 := i_le c_91
                have k_207 : (0 : Int32).toInt = 0 := by decide
                have q_208 := i_ne c_92
                have q_209 := i_le c_135
                try have hq7 := hct x.toNatClampNeg (cl_lt (by omega) (by omega))
                try generalize Int32.toInt (rw (((1800 * x) + (6 * k)) + 2).toNatClampNeg) = z0 at *
                try generalize Int32.toInt (rw ((1800 * x) + (6 * k)).toNatClampNeg) = z1 at *
                try generalize Int32.toInt (ct x.toNatClampNeg) = z2 at *
                try generalize Int32.toInt r_108.2.1 = z3 at *
                try generalize Int32.toInt r_160.2.1 = z4 at *
                try generalize Int32.toInt r_185.2.1 = z5 at *
                try generalize Int32.toInt wlz = z6 at *
                try generalize Int32.toInt fi = z7 at *
                try generalize Int32.toInt li = z8 at *
                try generalize Int32.toInt (0 : Int32) = z9 at *
                try generalize Int32.toInt k = z10 at *
                try generalize Int32.toInt x = z11 at *
                first | omega | exact ⟨by omega, by omega⟩
              have hPc := hP.sub (ws' := [(h0, .inr (9, [.int 0, .ref a0, .ref a1, .ref a2, .int dc, .ref a3, .int tl, .ref a4, .int xl, .int fo, .int fa, .ref a5, .int mn, .ref a6, .int r_185.1, .ref a7, .int r_185.2.1])), (a7, .inl (cB, 6000, .inl r_185.2.2))]) [0, 4] rfl
              have hDc := hD.sub (ws' := [(h0, .inr (9, [.int 0, .ref a0, .ref a1, .ref a2, .int dc, .ref a3, .int tl, .ref a4, .int xl, .int fo, .int fa, .ref a5, .int mn, .ref a6, .int r_185.1, .ref a7, .int r_185.2.1])), (a7, .inl (cB, 6000, .inl r_185.2.2))]) [0, 4] (by decide) rfl
              have hFc := va_free (wc := [(h0, .inr (9, [.int 0, .ref a0, .ref a1, .ref a2, .int dc, .ref a3, .int tl, .ref a4, .int xl, .int fo, .int fa, .ref a5, .int mn, .ref a6, .int r_185.1, .ref a7, .int r_185.2.1])), (a7, .inl (cB, 6000, .inl r_185.2.2))]) hD hS hA [0, 4] rfl
              refine va_callv (va_runV (As := [.int ((rw (((1800 * x) + (6 * k)) + 4).toNatClampNeg) - sc)]) (rest := []) ⟨hx, hb, hml, hown, hts⟩ (c_X9_addNumber l dC dI cB cC cI cJ H.size h0 a0 a1 a2 a3 a4 a5 a6 a7 0 dc tl xl fo fa mn r_185.1 r_185.2.1 r_185.2.2 ((rw (((1800 * x) + (6 * k)) + 4).toNatClampNeg) - sc) p_200 p_205) (cwV 1 hts gX9_write_X9_addNumber rfl rfl rfl (by decide +kernel) ⟨(Nat.le_of_ble_eq_true rfl), (Nat.le_of_ble_eq_true rfl)⟩) ⟨cP_blind, va_recv hG.1 hPc (ci := 9) (q0 := 0) rfl rfl, cP_pre hPc hG hDc⟩ rfl rfl hl.1 rfl (lv_room (Nat.le_of_ble_eq_true rfl)) dX9_write_199 ⟨Nat.le_of_ble_eq_true rfl, Nat.le_of_ble_eq_true rfl⟩) hS (fun q _ h => hFc q h) hFc (fun u t H1 locs ht hvm hw hB hz1 hk1 hS => ?_)
              obtain ⟨hP1, hD1⟩ := hB
              rw [ht] at hP1
              generalize hr_210 : fX9_addNumber 0 dc tl xl fo fa mn r_185.1 r_185.2.1 r_185.2.2 ((rw (((1800 * x) + (6 * k)) + 4).toNatClampNeg) - sc) = r_210 at hP1 hD1 hw
              have er_210_0 := hw
              rw [bnd_eq hr_210] at hR
              obtain ⟨hP, hD⟩ := va_join (wr := [(a0, .inl (cI, 3600, .inl rw)), (a1, .inl (cI, 2, .inl ct)), (a4, .inl (cB, 6000, .inl tx))]) (w1 := [(h0, .inr (9, [.int 0, .ref a0, .ref a1, .ref a2, .int dc, .ref a3, .int tl, .ref a4, .int xl, .int fo, .int fa, .ref a5, .int mn, .ref a6, .int r_210.1, .ref a7, .int r_210.2.1])), (a7, .inl (cB, 6000, .inl r_210.2.2))]) hP hD [0, 4] [1, 2, 3] rfl rfl (by decide) (by decide) hk1 hFc hP1 hD1
              generalize H1 = H at hP hS ⊢
              have hP := hP.sub (ws' := [(h0, .inr (9, [.int 0, .ref a0, .ref a1, .ref a2, .int dc, .ref a3, .int tl, .ref a4, .int xl, .int fo, .int fa, .ref a5, .int mn, .ref a6, .int r_210.1, .ref a7, .int r_210.2.1])), (a0, .inl (cI, 3600, .inl rw)), (a1, .inl (cI, 2, .inl ct)), (a4, .inl (cB, 6000, .inl tx)), (a7, .inl (cB, 6000, .inl r_210.2.2))]) [3, 0, 1, 2, 4] rfl
              have hD := hD.sub (ws' := [(h0, .inr (9, [.int 0, .ref a0, .ref a1, .ref a2, .int dc, .ref a3, .int tl, .ref a4, .int xl, .int fo, .int fa, .ref a5, .int mn, .ref a6, .int r_210.1, .ref a7, .int r_210.2.1])), (a0, .inl (cI, 3600, .inl rw)), (a1, .inl (cI, 2, .inl ct)), (a4, .inl (cB, 6000, .inl tx)), (a7, .inl (cB, 6000, .inl r_210.2.2))]) [3, 0, 1, 2, 4] (by decide) rfl
              refine lv_aload_n hx hb dX9_write_202 rfl (lv_at hl 2 rfl) ?_
              refine va_get (D := (dC, dI)) (ci := 9) (v := .ref a0) (C := RX9) (T := TX9) (N := 17) hx hb hts inc_X9_write_9 hown hG.1 hP 0 rfl rfl 1 (by decide) (hts (.fieldLink RX9 13 "MappingDeskModel" "rows" "[I") (by decide +kernel)) (fun _ h9 => h9) rfl dX9_write_203 ?_
              refine lv_iload hx hb dX9_write_206 (lv_at hl 10 rfl) ?_
              refine lv_iconst (v := 2) hx hb dX9_write_208 (by decide) ?_
              refine lv_iadd hx hb dX9_write_209 ?_
              have b_211 : vp_in (((1800 * x) + (6 * k)) + 2) 3600 := by
                have hq9 := hlin k (by omega) (by omega)
                have q_212 := i_le c_91
                have k_213 : (0 : Int32).toInt = 0 := by decide
                have q_214 := i_ne c_92
                have q_215 := i_le c_135
                try have hq7 := hct x.toNatClampNeg (cl_lt (by omega) (by omega))
                have k_216 : (1800 : Int32).toInt = 1800 := by decide
                have t_217 : ((1800 * x)).toInt = 1800 * (x).toInt := by
                  have z := ti_mul (a := 1800) (b := x) (by rw [show (1800 : Int32).toInt = 1800 from by decide]; omega) (by rw [show (1800 : Int32).toInt = 1800 from by decide]; omega)
                  rw [z, show (1800 : Int32).toInt = 1800 from by decide]
                have k_218 : (6 : Int32).toInt = 6 := by decide
                have t_219 : ((6 * k)).toInt = 6 * (k).toInt := by
                  have z := ti_mul (a := 6) (b := k) (by rw [show (6 : Int32).toInt = 6 from by decide]; omega) (by rw [show (6 : Int32).toInt = 6 from by decide]; omega)
                  rw [z, show (6 : Int32).toInt = 6 from by decide]
                have t_220 := ti_add (a := (1800 * x)) (b := (6 * k)) (by omega) (by omega)
                have k_221 : (2 : Int32).toInt = 2 := by decide
                have t_222 := ti_add (a := ((1800 * x) + (6 * k))) (b := 2) (by omega) (by omega)
                refine vin ?_ ?_
                all_goals (try generalize Int32.toInt (rw (((1800 * x) + (6 * k)) + 2).toNatClampNeg) = z0 at *; try generalize Int32.toInt (rw ((1800 * x) + (6 * k)).toNatClampNeg) = z1 at *; try generalize Int32.toInt (((1800 * x) + (6 * k)) + 2) = z2 at *; try generalize Int32.toInt ((1800 * x) + (6 * k)) = z3 at *; try generalize Int32.toInt (ct x.toNatClampNeg) = z4 at *; try generalize Int32.toInt (1800 * x) = z5 at *; try generalize Int32.toInt r_108.2.1 = z6 at *; try generalize Int32.toInt r_160.2.1 = z7 at *; try generalize Int32.toInt r_185.2.1 = z8 at *; try generalize Int32.toInt r_210.2.1 = z9 at *; try generalize Int32.toInt (6 * k) = z10 at *; try generalize Int32.toInt (1800 : Int32) = z11 at *; try generalize Int32.toInt wlz = z12 at *; try generalize Int32.toInt fi = z13 at *; try generalize Int32.toInt li = z14 at *; try generalize Int32.toInt (0 : Int32) = z15 at *; try generalize Int32.toInt (2 : Int32) = z16 at *; try generalize Int32.toInt (6 : Int32) = z17 at *; try generalize Int32.toInt k = z18 at *; try generalize Int32.toInt x = z19 at *; omega)
              refine va_iald hx hb hG.1 hP 1 2 rfl rfl b_211 dX9_write_210 ?_
              refine lv_istore (lv' := [(4, .int (rw (((1800 * x) + (6 * k)) + 2).toNatClampNeg)), (3, .int (rw (((1800 * x) + (6 * k)) + 1).toNatClampNeg)), (8, .int 0), (0, .ref h0), (1, .int x), (2, .int li), (5, .int sl), (6, .int sc), (7, .int nm), (9, .int k), (10, .int ((1800 * x) + (6 * k)))]) hx hb dX9_write_211 hl (by decide) rfl (fun ls hl => ?_)
              refine lv_aload_n hx hb dX9_write_213 rfl (lv_at hl 3 rfl) ?_
              refine va_get (D := (dC, dI)) (ci := 9) (v := .ref a0) (C := RX9) (T := TX9) (N := 17) hx hb hts inc_X9_write_9 hown hG.1 hP 0 rfl rfl 1 (by decide) (hts (.fieldLink RX9 13 "MappingDeskModel" "rows" "[I") (by decide +kernel)) (fun _ h9 => h9) rfl dX9_write_214 ?_
              refine lv_iload hx hb dX9_write_217 (lv_at hl 10 rfl) ?_
              refine lv_iconst (v := 3) hx hb dX9_write_219 (by decide) ?_
              refine lv_iadd hx hb dX9_write_220 ?_
              have b_225 : vp_in (((1800 * x) + (6 * k)) + 3) 3600 := by
                have hq9 := hlin k (by omega) (by omega)
                have q_226 := i_le c_91
                have k_227 : (0 : Int32).toInt = 0 := by decide
                have q_228 := i_ne c_92
                have q_229 := i_le c_135
                try have hq7 := hct x.toNatClampNeg (cl_lt (by omega) (by omega))
                have k_230 : (1800 : Int32).toInt = 1800 := by decide
                have t_231 : ((1800 * x)).toInt = 1800 * (x).toInt := by
                  have z := ti_mul (a := 1800) (b := x) (by rw [show (1800 : Int32).toInt = 1800 from by decide]; omega) (by rw [show (1800 : Int32).toInt = 1800 from by decide]; omega)
                  rw [z, show (1800 : Int32).toInt = 1800 from by decide]
                have k_232 : (6 : Int32).toInt = 6 := by decide
                have t_233 : ((6 * k)).toInt = 6 * (k).toInt := by
                  have z := ti_mul (a := 6) (b := k) (by rw [show (6 : Int32).toInt = 6 from by decide]; omega) (by rw [show (6 : Int32).toInt = 6 from by decide]; omega)
                  rw [z, show (6 : Int32).toInt = 6 from by decide]
                have t_234 := ti_add (a := (1800 * x)) (b := (6 * k)) (by omega) (by omega)
                have k_235 : (3 : Int32).toInt = 3 := by decide
                have t_236 := ti_add (a := ((1800 * x) + (6 * k))) (b := 3) (by omega) (by omega)
                refine vin ?_ ?_
                all_goals (try generalize Int32.toInt (rw (((1800 * x) + (6 * k)) + 2).toNatClampNeg) = z0 at *; try generalize Int32.toInt (rw ((1800 * x) + (6 * k)).toNatClampNeg) = z1 at *; try generalize Int32.toInt (((1800 * x) + (6 * k)) + 3) = z2 at *; try generalize Int32.toInt ((1800 * x) + (6 * k)) = z3 at *; try generalize Int32.toInt (ct x.toNatClampNeg) = z4 at *; try generalize Int32.toInt (1800 * x) = z5 at *; try generalize Int32.toInt r_108.2.1 = z6 at *; try generalize Int32.toInt r_160.2.1 = z7 at *; try generalize Int32.toInt r_185.2.1 = z8 at *; try generalize Int32.toInt r_210.2.1 = z9 at *; try generalize Int32.toInt (6 * k) = z10 at *; try generalize Int32.toInt (1800 : Int32) = z11 at *; try generalize Int32.toInt wlz = z12 at *; try generalize Int32.toInt fi = z13 at *; try generalize Int32.toInt li = z14 at *; try generalize Int32.toInt (0 : Int32) = z15 at *; try generalize Int32.toInt (3 : Int32) = z16 at *; try generalize Int32.toInt (6 : Int32) = z17 at *; try generalize Int32.toInt k = z18 at *; try generalize Int32.toInt x = z19 at *; omega)
              refine va_iald hx hb hG.1 hP 1 2 rfl rfl b_225 dX9_write_221 ?_
              refine lv_istore (lv' := [(5, .int (rw (((1800 * x) + (6 * k)) + 3).toNatClampNeg)), (4, .int (rw (((1800 * x) + (6 * k)) + 2).toNatClampNeg)), (3, .int (rw (((1800 * x) + (6 * k)) + 1).toNatClampNeg)), (8, .int 0), (0, .ref h0), (1, .int x), (2, .int li), (6, .int sc), (7, .int nm), (9, .int k), (10, .int ((1800 * x) + (6 * k)))]) hx hb dX9_write_222 hl (by decide) rfl (fun ls hl => ?_)
              refine lv_aload_n hx hb dX9_write_224 rfl (lv_at hl 4 rfl) ?_
              refine va_get (D := (dC, dI)) (ci := 9) (v := .ref a0) (C := RX9) (T := TX9) (N := 17) hx hb hts inc_X9_write_9 hown hG.1 hP 0 rfl rfl 1 (by decide) (hts (.fieldLink RX9 13 "MappingDeskModel" "rows" "[I") (by decide +kernel)) (fun _ h9 => h9) rfl dX9_write_225 ?_
              refine lv_iload hx hb dX9_write_228 (lv_at hl 10 rfl) ?_
              refine lv_iconst (v := 4) hx hb dX9_write_230 (by decide) ?_
              refine lv_iadd hx hb dX9_write_231 ?_
              have b_239 : vp_in (((1800 * x) + (6 * k)) + 4) 3600 := by
                have hq9 := hlin k (by omega) (by omega)
                have q_240 := i_le c_91
                have k_241 : (0 : Int32).toInt = 0 := by decide
                have q_242 := i_ne c_92
                have q_243 := i_le c_135
                try have hq7 := hct x.toNatClampNeg (cl_lt (by omega) (by omega))
                have k_244 : (1800 : Int32).toInt = 1800 := by decide
                have t_245 : ((1800 * x)).toInt = 1800 * (x).toInt := by
                  have z := ti_mul (a := 1800) (b := x) (by rw [show (1800 : Int32).toInt = 1800 from by decide]; omega) (by rw [show (1800 : Int32).toInt = 1800 from by decide]; omega)
                  rw [z, show (1800 : Int32).toInt = 1800 from by decide]
                have k_246 : (6 : Int32).toInt = 6 := by decide
                have t_247 : ((6 * k)).toInt = 6 * (k).toInt := by
                  have z := ti_mul (a := 6) (b := k) (by rw [show (6 : Int32).toInt = 6 from by decide]; omega) (by rw [show (6 : Int32).toInt = 6 from by decide]; omega)
                  rw [z, show (6 : Int32).toInt = 6 from by decide]
                have t_248 := ti_add (a := (1800 * x)) (b := (6 * k)) (by omega) (by omega)
                have k_249 : (4 : Int32).toInt = 4 := by decide
                have t_250 := ti_add (a := ((1800 * x) + (6 * k))) (b := 4) (by omega) (by omega)
                refine vin ?_ ?_
                all_goals (try generalize Int32.toInt (rw (((1800 * x) + (6 * k)) + 2).toNatClampNeg) = z0 at *; try generalize Int32.toInt (rw ((1800 * x) + (6 * k)).toNatClampNeg) = z1 at *; try generalize Int32.toInt (((1800 * x) + (6 * k)) + 4) = z2 at *; try generalize Int32.toInt ((1800 * x) + (6 * k)) = z3 at *; try generalize Int32.toInt (ct x.toNatClampNeg) = z4 at *; try generalize Int32.toInt (1800 * x) = z5 at *; try generalize Int32.toInt r_108.2.1 = z6 at *; try generalize Int32.toInt r_160.2.1 = z7 at *; try generalize Int32.toInt r_185.2.1 = z8 at *; try generalize Int32.toInt r_210.2.1 = z9 at *; try generalize Int32.toInt (6 * k) = z10 at *; try generalize Int32.toInt (1800 : Int32) = z11 at *; try generalize Int32.toInt wlz = z12 at *; try generalize Int32.toInt fi = z13 at *; try generalize Int32.toInt li = z14 at *; try generalize Int32.toInt (0 : Int32) = z15 at *; try generalize Int32.toInt (4 : Int32) = z16 at *; try generalize Int32.toInt (6 : Int32) = z17 at *; try generalize Int32.toInt k = z18 at *; try generalize Int32.toInt x = z19 at *; omega)
              refine va_iald hx hb hG.1 hP 1 2 rfl rfl b_239 dX9_write_232 ?_
              refine lv_istore (lv' := [(6, .int (rw (((1800 * x) + (6 * k)) + 4).toNatClampNeg)), (5, .int (rw (((1800 * x) + (6 * k)) + 3).toNatClampNeg)), (4, .int (rw (((1800 * x) + (6 * k)) + 2).toNatClampNeg)), (3, .int (rw (((1800 * x) + (6 * k)) + 1).toNatClampNeg)), (8, .int 0), (0, .ref h0), (1, .int x), (2, .int li), (7, .int nm), (9, .int k), (10, .int ((1800 * x) + (6 * k)))]) hx hb dX9_write_233 hl (by decide) rfl (fun ls hl => ?_)
              refine lv_aload_n hx hb dX9_write_235 rfl (lv_at hl 5 rfl) ?_
              refine va_get (D := (dC, dI)) (ci := 9) (v := .ref a0) (C := RX9) (T := TX9) (N := 17) hx hb hts inc_X9_write_9 hown hG.1 hP 0 rfl rfl 1 (by decide) (hts (.fieldLink RX9 13 "MappingDeskModel" "rows" "[I") (by decide +kernel)) (fun _ h9 => h9) rfl dX9_write_236 ?_
              refine lv_iload hx hb dX9_write_239 (lv_at hl 10 rfl) ?_
              refine lv_iconst (v := 5) hx hb dX9_write_241 (by decide) ?_
              refine lv_iadd hx hb dX9_write_242 ?_
              have b_253 : vp_in (((1800 * x) + (6 * k)) + 5) 3600 := by
                have hq9 := hlin k (by omega) (by omega)
                have q_254 := i_le c_91
                have k_255 : (0 : Int32).toInt = 0 := by decide
                have q_256 := i_ne c_92
                have q_257 := i_le c_135
                try have hq7 := hct x.toNatClampNeg (cl_lt (by omega) (by omega))
                have k_258 : (1800 : Int32).toInt = 1800 := by decide
                have t_259 : ((1800 * x)).toInt = 1800 * (x).toInt := by
                  have z := ti_mul (a := 1800) (b := x) (by rw [show (1800 : Int32).toInt = 1800 from by decide]; omega) (by rw [show (1800 : Int32).toInt = 1800 from by decide]; omega)
                  rw [z, show (1800 : Int32).toInt = 1800 from by decide]
                have k_260 : (6 : Int32).toInt = 6 := by decide
                have t_261 : ((6 * k)).toInt = 6 * (k).toInt := by
                  have z := ti_mul (a := 6) (b := k) (by rw [show (6 : Int32).toInt = 6 from by decide]; omega) (by rw [show (6 : Int32).toInt = 6 from by decide]; omega)
                  rw [z, show (6 : Int32).toInt = 6 from by decide]
                have t_262 := ti_add (a := (1800 * x)) (b := (6 * k)) (by omega) (by omega)
                have k_263 : (5 : Int32).toInt = 5 := by decide
                have t_264 := ti_add (a := ((1800 * x) + (6 * k))) (b := 5) (by omega) (by omega)
                refine vin ?_ ?_
                all_goals (try generalize Int32.toInt (rw (((1800 * x) + (6 * k)) + 2).toNatClampNeg) = z0 at *; try generalize Int32.toInt (rw ((1800 * x) + (6 * k)).toNatClampNeg) = z1 at *; try generalize Int32.toInt (((1800 * x) + (6 * k)) + 5) = z2 at *; try generalize Int32.toInt ((1800 * x) + (6 * k)) = z3 at *; try generalize Int32.toInt (ct x.toNatClampNeg) = z4 at *; try generalize Int32.toInt (1800 * x) = z5 at *; try generalize Int32.toInt r_108.2.1 = z6 at *; try generalize Int32.toInt r_160.2.1 = z7 at *; try generalize Int32.toInt r_185.2.1 = z8 at *; try generalize Int32.toInt r_210.2.1 = z9 at *; try generalize Int32.toInt (6 * k) = z10 at *; try generalize Int32.toInt (1800 : Int32) = z11 at *; try generalize Int32.toInt wlz = z12 at *; try generalize Int32.toInt fi = z13 at *; try generalize Int32.toInt li = z14 at *; try generalize Int32.toInt (0 : Int32) = z15 at *; try generalize Int32.toInt (5 : Int32) = z16 at *; try generalize Int32.toInt (6 : Int32) = z17 at *; try generalize Int32.toInt k = z18 at *; try generalize Int32.toInt x = z19 at *; omega)
              refine va_iald hx hb hG.1 hP 1 2 rfl rfl b_253 dX9_write_243 ?_
              refine lv_if_ge (tgt := 250) hx hb dX9_write_244 (by decide) (fun c_267 => ?_) (fun c_267 => ?_)
              · rw [if_pos c_267] at hR
                refine lv_aload_n hx hb dX9_write_250 rfl (lv_at hl 5 rfl) ?_
                refine lv_aload_n hx hb dX9_write_251 rfl (lv_at hl 5 rfl) ?_
                refine va_get (D := (dC, dI)) (ci := 9) (v := .ref a0) (C := RX9) (T := TX9) (N := 17) hx hb hts inc_X9_write_9 hown hG.1 hP 0 rfl rfl 1 (by decide) (hts (.fieldLink RX9 13 "MappingDeskModel" "rows" "[I") (by decide +kernel)) (fun _ h9 => h9) rfl dX9_write_252 ?_
                refine lv_iload hx hb dX9_write_255 (lv_at hl 10 rfl) ?_
                refine lv_iconst (v := 5) hx hb dX9_write_257 (by decide) ?_
                refine lv_iadd hx hb dX9_write_258 ?_
                have b_268 : vp_in (((1800 * x) + (6 * k)) + 5) 3600 := by
                  have hq9 := hlin k (by omega) (by omega)
                  have q_269 := i_le c_91
                  have k_270 : (0 : Int32).toInt = 0 := by decide
                  have q_271 := i_ne c_92
                  have q_272 := i_le c_135
                  have q_273 := i_le c_267
                  try have hq7 := hct x.toNatClampNeg (cl_lt (by omega) (by omega))
                  have k_274 : (1800 : Int32).toInt = 1800 := by decide
                  have t_275 : ((1800 * x)).toInt = 1800 * (x).toInt := by
                    have z := ti_mul (a := 1800) (b := x) (by rw [show (1800 : Int32).toInt = 1800 from by decide]; omega) (by rw [show (1800 : Int32).toInt = 1800 from by decide]; omega)
                    rw [z, show (1800 : Int32).toInt = 1800 from by decide]
                  have k_276 : (6 : Int32).toInt = 6 := by decide
                  have t_277 : ((6 * k)).toInt = 6 * (k).toInt := by
                    have z := ti_mul (a := 6) (b := k) (by rw [show (6 : Int32).toInt = 6 from by decide]; omega) (by rw [show (6 : Int32).toInt = 6 from by decide]; omega)
                    rw [z, show (6 : Int32).toInt = 6 from by decide]
                  have t_278 := ti_add (a := (1800 * x)) (b := (6 * k)) (by omega) (by omega)
                  have k_279 : (5 : Int32).toInt = 5 := by decide
                  have t_280 := ti_add (a := ((1800 * x) + (6 * k))) (b := 5) (by omega) (by omega)
                  refine vin ?_ ?_
                  all_goals (try generalize Int32.toInt (rw (((1800 * x) + (6 * k)) + 2).toNatClampNeg) = z0 at *; try generalize Int32.toInt (rw (((1800 * x) + (6 * k)) + 5).toNatClampNeg) = z1 at *; try generalize Int32.toInt (rw ((1800 * x) + (6 * k)).toNatClampNeg) = z2 at *; try generalize Int32.toInt (((1800 * x) + (6 * k)) + 5) = z3 at *; try generalize Int32.toInt ((1800 * x) + (6 * k)) = z4 at *; try generalize Int32.toInt (ct x.toNatClampNeg) = z5 at *; try generalize Int32.toInt (1800 * x) = z6 at *; try generalize Int32.toInt r_108.2.1 = z7 at *; try generalize Int32.toInt r_160.2.1 = z8 at *; try generalize Int32.toInt r_185.2.1 = z9 at *; try generalize Int32.toInt r_210.2.1 = z10 at *; try generalize Int32.toInt (6 * k) = z11 at *; try generalize Int32.toInt (1800 : Int32) = z12 at *; try generalize Int32.toInt wlz = z13 at *; try generalize Int32.toInt fi = z14 at *; try generalize Int32.toInt li = z15 at *; try generalize Int32.toInt (0 : Int32) = z16 at *; try generalize Int32.toInt (5 : Int32) = z17 at *; try generalize Int32.toInt (6 : Int32) = z18 at *; try generalize Int32.toInt k = z19 at *; try generalize Int32.toInt x = z20 at *; omega)
                refine va_iald hx hb hG.1 hP 1 2 rfl rfl b_268 dX9_write_259 ?_
                refine lv_iload hx hb dX9_write_260 (lv_at hl 8 rfl) ?_
                refine lv_isub hx hb dX9_write_262 ?_
                have p_283 : 0 ≤ r_210.2.1.toInt := by
                  have hq9 := hlin k (by omega) (by omega)
                  have q_284 := i_le c_91
                  have k_285 : (0 : Int32).toInt = 0 := by decide
                  have q_286 := i_ne c_92
                  have q_287 := i_le c_135
                  have q_288 := i_le c_267
                  try have hq7 := hct x.toNatClampNeg (cl_lt (by omega) (by omega))
                  try generalize Int32.toInt (rw (((1800 * x) + (6 * k)) + 2).toNatClampNeg) = z0 at *
                  try generalize Int32.toInt (rw (((1800 * x) + (6 * k)) + 5).toNatClampNeg) = z1 at *
                  try generalize Int32.toInt (rw ((1800 * x) + (6 * k)).toNatClampNeg) = z2 at *
                  try generalize Int32.toInt (ct x.toNatClampNeg) = z3 at *
                  try generalize Int32.toInt r_108.2.1 = z4 at *
                  try generalize Int32.toInt r_160.2.1 = z5 at *
                  try generalize Int32.toInt r_185.2.1 = z6 at *
                  try generalize Int32.toInt r_210.2.1 = z7 at *
                  try generalize Int32.toInt wlz = z8 at *
                  try generalize Int32.toInt fi = z9 at *
                  try generalize Int32.toInt li = z10 at *
                  try generalize Int32.toInt (0 : Int32) = z11 at *
                  try generalize Int32.toInt k = z12 at *
                  try generalize Int32.toInt x = z13 at *
                  first | omega | exact ⟨by omega, by omega⟩
                have p_289 : r_210.2.1.toInt ≤ 6000 := by
                  have hq9 := hlin k (by omega) (by omega)
                  have q_290 := i_le c_91
                  have k_291 : (0 : Int32).toInt = 0 := by decide
                  have q_292 := i_ne c_92
                  have q_293 := i_le c_135
                  have q_294 := i_le c_267
                  try have hq7 := hct x.toNatClampNeg (cl_lt (by omega) (by omega))
                  try generalize Int32.toInt (rw (((1800 * x) + (6 * k)) + 2).toNatClampNeg) = z0 at *
                  try generalize Int32.toInt (rw (((1800 * x) + (6 * k)) + 5).toNatClampNeg) = z1 at *
                  try generalize Int32.toInt (rw ((1800 * x) + (6 * k)).toNatClampNeg) = z2 at *
                  try generalize Int32.toInt (ct x.toNatClampNeg) = z3 at *
                  try generalize Int32.toInt r_108.2.1 = z4 at *
                  try generalize Int32.toInt r_160.2.1 = z5 at *
                  try generalize Int32.toInt r_185.2.1 = z6 at *
                  try generalize Int32.toInt r_210.2.1 = z7 at *
                  try generalize Int32.toInt wlz = z8 at *
                  try generalize Int32.toInt fi = z9 at *
                  try generalize Int32.toInt li = z10 at *
                  try generalize Int32.toInt (0 : Int32) = z11 at *
                  try generalize Int32.toInt k = z12 at *
                  try generalize Int32.toInt x = z13 at *
                  first | omega | exact ⟨by omega, by omega⟩
                have hPc := hP.sub (ws' := [(h0, .inr (9, [.int 0, .ref a0, .ref a1, .ref a2, .int dc, .ref a3, .int tl, .ref a4, .int xl, .int fo, .int fa, .ref a5, .int mn, .ref a6, .int r_210.1, .ref a7, .int r_210.2.1])), (a7, .inl (cB, 6000, .inl r_210.2.2))]) [0, 4] rfl
                have hDc := hD.sub (ws' := [(h0, .inr (9, [.int 0, .ref a0, .ref a1, .ref a2, .int dc, .ref a3, .int tl, .ref a4, .int xl, .int fo, .int fa, .ref a5, .int mn, .ref a6, .int r_210.1, .ref a7, .int r_210.2.1])), (a7, .inl (cB, 6000, .inl r_210.2.2))]) [0, 4] (by decide) rfl
                have hFc := va_free (wc := [(h0, .inr (9, [.int 0, .ref a0, .ref a1, .ref a2, .int dc, .ref a3, .int tl, .ref a4, .int xl, .int fo, .int fa, .ref a5, .int mn, .ref a6, .int r_210.1, .ref a7, .int r_210.2.1])), (a7, .inl (cB, 6000, .inl r_210.2.2))]) hD hS hA [0, 4] rfl
                refine va_callv (va_runV (As := [.int ((rw (((1800 * x) + (6 * k)) + 5).toNatClampNeg) - nm)]) (rest := []) ⟨hx, hb, hml, hown, hts⟩ (c_X9_addNumber l dC dI cB cC cI cJ H.size h0 a0 a1 a2 a3 a4 a5 a6 a7 0 dc tl xl fo fa mn r_210.1 r_210.2.1 r_210.2.2 ((rw (((1800 * x) + (6 * k)) + 5).toNatClampNeg) - nm) p_283 p_289) (cwV 1 hts gX9_write_X9_addNumber rfl rfl rfl (by decide +kernel) ⟨(Nat.le_of_ble_eq_true rfl), (Nat.le_of_ble_eq_true rfl)⟩) ⟨cP_blind, va_recv hG.1 hPc (ci := 9) (q0 := 0) rfl rfl, cP_pre hPc hG hDc⟩ rfl rfl hl.1 rfl (lv_room (Nat.le_of_ble_eq_true rfl)) dX9_write_263 ⟨Nat.le_of_ble_eq_true rfl, Nat.le_of_ble_eq_true rfl⟩) hS (fun q _ h => hFc q h) hFc (fun u t H1 locs ht hvm hw hB hz1 hk1 hS => ?_)
                obtain ⟨hP1, hD1⟩ := hB
                rw [ht] at hP1
                generalize hr_295 : fX9_addNumber 0 dc tl xl fo fa mn r_210.1 r_210.2.1 r_210.2.2 ((rw (((1800 * x) + (6 * k)) + 5).toNatClampNeg) - nm) = r_295 at hP1 hD1 hw
                have er_295_0 := hw
                rw [bnd_eq hr_295] at hR
                obtain ⟨hP, hD⟩ := va_join (wr := [(a0, .inl (cI, 3600, .inl rw)), (a1, .inl (cI, 2, .inl ct)), (a4, .inl (cB, 6000, .inl tx))]) (w1 := [(h0, .inr (9, [.int 0, .ref a0, .ref a1, .ref a2, .int dc, .ref a3, .int tl, .ref a4, .int xl, .int fo, .int fa, .ref a5, .int mn, .ref a6, .int r_295.1, .ref a7, .int r_295.2.1])), (a7, .inl (cB, 6000, .inl r_295.2.2))]) hP hD [0, 4] [1, 2, 3] rfl rfl (by decide) (by decide) hk1 hFc hP1 hD1
                generalize H1 = H at hP hS ⊢
                have hP := hP.sub (ws' := [(h0, .inr (9, [.int 0, .ref a0, .ref a1, .ref a2, .int dc, .ref a3, .int tl, .ref a4, .int xl, .int fo, .int fa, .ref a5, .int mn, .ref a6, .int r_295.1, .ref a7, .int r_295.2.1])), (a0, .inl (cI, 3600, .inl rw)), (a1, .inl (cI, 2, .inl ct)), (a4, .inl (cB, 6000, .inl tx)), (a7, .inl (cB, 6000, .inl r_295.2.2))]) [3, 0, 1, 2, 4] rfl
                have hD := hD.sub (ws' := [(h0, .inr (9, [.int 0, .ref a0, .ref a1, .ref a2, .int dc, .ref a3, .int tl, .ref a4, .int xl, .int fo, .int fa, .ref a5, .int mn, .ref a6, .int r_295.1, .ref a7, .int r_295.2.1])), (a0, .inl (cI, 3600, .inl rw)), (a1, .inl (cI, 2, .inl ct)), (a4, .inl (cB, 6000, .inl tx)), (a7, .inl (cB, 6000, .inl r_295.2.2))]) [3, 0, 1, 2, 4] (by decide) rfl
                refine lv_aload_n hx hb dX9_write_266 rfl (lv_at hl 5 rfl) ?_
                refine va_get (D := (dC, dI)) (ci := 9) (v := .ref a0) (C := RX9) (T := TX9) (N := 17) hx hb hts inc_X9_write_9 hown hG.1 hP 0 rfl rfl 1 (by decide) (hts (.fieldLink RX9 13 "MappingDeskModel" "rows" "[I") (by decide +kernel)) (fun _ h9 => h9) rfl dX9_write_267 ?_
                refine lv_iload hx hb dX9_write_270 (lv_at hl 10 rfl) ?_
                refine lv_iconst (v := 5) hx hb dX9_write_272 (by decide) ?_
                refine lv_iadd hx hb dX9_write_273 ?_
                have b_296 : vp_in (((1800 * x) + (6 * k)) + 5) 3600 := by
                  have hq9 := hlin k (by omega) (by omega)
                  have q_297 := i_le c_91
                  have k_298 : (0 : Int32).toInt = 0 := by decide
                  have q_299 := i_ne c_92
                  have q_300 := i_le c_135
                  have q_301 := i_le c_267
                  try have hq7 := hct x.toNatClampNeg (cl_lt (by omega) (by omega))
                  have k_302 : (1800 : Int32).toInt = 1800 := by decide
                  have t_303 : ((1800 * x)).toInt = 1800 * (x).toInt := by
                    have z := ti_mul (a := 1800) (b := x) (by rw [show (1800 : Int32).toInt = 1800 from by decide]; omega) (by rw [show (1800 : Int32).toInt = 1800 from by decide]; omega)
                    rw [z, show (1800 : Int32).toInt = 1800 from by decide]
                  have k_304 : (6 : Int32).toInt = 6 := by decide
                  have t_305 : ((6 * k)).toInt = 6 * (k).toInt := by
                    have z := ti_mul (a := 6) (b := k) (by rw [show (6 : Int32).toInt = 6 from by decide]; omega) (by rw [show (6 : Int32).toInt = 6 from by decide]; omega)
                    rw [z, show (6 : Int32).toInt = 6 from by decide]
                  have t_306 := ti_add (a := (1800 * x)) (b := (6 * k)) (by omega) (by omega)
                  have k_307 : (5 : Int32).toInt = 5 := by decide
                  have t_308 := ti_add (a := ((1800 * x) + (6 * k))) (b := 5) (by omega) (by omega)
                  refine vin ?_ ?_
                  all_goals (try generalize Int32.toInt (rw (((1800 * x) + (6 * k)) + 2).toNatClampNeg) = z0 at *; try generalize Int32.toInt (rw (((1800 * x) + (6 * k)) + 5).toNatClampNeg) = z1 at *; try generalize Int32.toInt (rw ((1800 * x) + (6 * k)).toNatClampNeg) = z2 at *; try generalize Int32.toInt (((1800 * x) + (6 * k)) + 5) = z3 at *; try generalize Int32.toInt ((1800 * x) + (6 * k)) = z4 at *; try generalize Int32.toInt (ct x.toNatClampNeg) = z5 at *; try generalize Int32.toInt (1800 * x) = z6 at *; try generalize Int32.toInt r_108.2.1 = z7 at *; try generalize Int32.toInt r_160.2.1 = z8 at *; try generalize Int32.toInt r_185.2.1 = z9 at *; try generalize Int32.toInt r_210.2.1 = z10 at *; try generalize Int32.toInt r_295.2.1 = z11 at *; try generalize Int32.toInt (6 * k) = z12 at *; try generalize Int32.toInt (1800 : Int32) = z13 at *; try generalize Int32.toInt wlz = z14 at *; try generalize Int32.toInt fi = z15 at *; try generalize Int32.toInt li = z16 at *; try generalize Int32.toInt (0 : Int32) = z17 at *; try generalize Int32.toInt (5 : Int32) = z18 at *; try generalize Int32.toInt (6 : Int32) = z19 at *; try generalize Int32.toInt k = z20 at *; try generalize Int32.toInt x = z21 at *; omega)
                refine va_iald hx hb hG.1 hP 1 2 rfl rfl b_296 dX9_write_274 ?_
                refine lv_istore (lv' := [(7, .int (rw (((1800 * x) + (6 * k)) + 5).toNatClampNeg)), (6, .int (rw (((1800 * x) + (6 * k)) + 4).toNatClampNeg)), (5, .int (rw (((1800 * x) + (6 * k)) + 3).toNatClampNeg)), (4, .int (rw (((1800 * x) + (6 * k)) + 2).toNatClampNeg)), (3, .int (rw (((1800 * x) + (6 * k)) + 1).toNatClampNeg)), (8, .int 0), (0, .ref h0), (1, .int x), (2, .int li), (9, .int k), (10, .int ((1800 * x) + (6 * k)))]) hx hb dX9_write_275 hl (by decide) rfl (fun ls hl => ?_)
                refine lv_iinc (v := (k + 1)) (lv' := [(9, .int (k + 1)), (7, .int (rw (((1800 * x) + (6 * k)) + 5).toNatClampNeg)), (6, .int (rw (((1800 * x) + (6 * k)) + 4).toNatClampNeg)), (5, .int (rw (((1800 * x) + (6 * k)) + 3).toNatClampNeg)), (4, .int (rw (((1800 * x) + (6 * k)) + 2).toNatClampNeg)), (3, .int (rw (((1800 * x) + (6 * k)) + 1).toNatClampNeg)), (8, .int 0), (0, .ref h0), (1, .int x), (2, .int li), (10, .int ((1800 * x) + (6 * k)))]) hx hb dX9_write_277 hl (k := 9) rfl rfl (by decide) rfl (fun ls hl => ?_)
                refine lv_goto (tgt := 48) hx hb dX9_write_280 (by decide) ?_
                have v_316 : 0 ≤ x.toInt := by
                  exact hx0
                have v_317 : x.toInt ≤ 1 := by
                  exact hx1
                have v_318 : 0 ≤ ((k + 1)).toInt := by
                  have hq9 := hlin k (by omega) (by omega)
                  have q_319 := i_le c_91
                  have k_320 : (0 : Int32).toInt = 0 := by decide
                  have q_321 := i_ne c_92
                  have q_322 := i_le c_135
                  have q_323 := i_le c_267
                  try have hq7 := hct x.toNatClampNeg (cl_lt (by omega) (by omega))
                  have k_324 : (1 : Int32).toInt = 1 := by decide
                  have t_325 := ti_add (a := k) (b := 1) (by omega) (by omega)
                  try generalize Int32.toInt (rw (((1800 * x) + (6 * k)) + 2).toNatClampNeg) = z0 at *
                  try generalize Int32.toInt (rw (((1800 * x) + (6 * k)) + 5).toNatClampNeg) = z1 at *
                  try generalize Int32.toInt (rw ((1800 * x) + (6 * k)).toNatClampNeg) = z2 at *
                  try generalize Int32.toInt (ct x.toNatClampNeg) = z3 at *
                  try generalize Int32.toInt r_108.2.1 = z4 at *
                  try generalize Int32.toInt r_160.2.1 = z5 at *
                  try generalize Int32.toInt r_185.2.1 = z6 at *
                  try generalize Int32.toInt r_210.2.1 = z7 at *
                  try generalize Int32.toInt r_295.2.1 = z8 at *
                  try generalize Int32.toInt (k + 1) = z9 at *
                  try generalize Int32.toInt wlz = z10 at *
                  try generalize Int32.toInt fi = z11 at *
                  try generalize Int32.toInt li = z12 at *
                  try generalize Int32.toInt (0 : Int32) = z13 at *
                  try generalize Int32.toInt (1 : Int32) = z14 at *
                  try generalize Int32.toInt k = z15 at *
                  try generalize Int32.toInt x = z16 at *
                  omega
                have v_326 : 0 ≤ li.toInt := by
                  have hq9 := hlin k (by omega) (by omega)
                  have q_327 := i_le c_91
                  have k_328 : (0 : Int32).toInt = 0 := by decide
                  have q_329 := i_ne c_92
                  have q_330 := i_le c_135
                  have q_331 := i_le c_267
                  try have hq7 := hct x.toNatClampNeg (cl_lt (by omega) (by omega))
                  try generalize Int32.toInt (rw (((1800 * x) + (6 * k)) + 2).toNatClampNeg) = z0 at *
                  try generalize Int32.toInt (rw (((1800 * x) + (6 * k)) + 5).toNatClampNeg) = z1 at *
                  try generalize Int32.toInt (rw ((1800 * x) + (6 * k)).toNatClampNeg) = z2 at *
                  try generalize Int32.toInt (ct x.toNatClampNeg) = z3 at *
                  try generalize Int32.toInt r_108.2.1 = z4 at *
                  try generalize Int32.toInt r_160.2.1 = z5 at *
                  try generalize Int32.toInt r_185.2.1 = z6 at *
                  try generalize Int32.toInt r_210.2.1 = z7 at *
                  try generalize Int32.toInt r_295.2.1 = z8 at *
                  try generalize Int32.toInt wlz = z9 at *
                  try generalize Int32.toInt fi = z10 at *
                  try generalize Int32.toInt li = z11 at *
                  try generalize Int32.toInt (0 : Int32) = z12 at *
                  try generalize Int32.toInt k = z13 at *
                  try generalize Int32.toInt x = z14 at *
                  omega
                have v_332 : li.toInt ≤ 199 := by
                  have hq9 := hlin k (by omega) (by omega)
                  have q_333 := i_le c_91
                  have k_334 : (0 : Int32).toInt = 0 := by decide
                  have q_335 := i_ne c_92
                  have q_336 := i_le c_135
                  have q_337 := i_le c_267
                  try have hq7 := hct x.toNatClampNeg (cl_lt (by omega) (by omega))
                  try generalize Int32.toInt (rw (((1800 * x) + (6 * k)) + 2).toNatClampNeg) = z0 at *
                  try generalize Int32.toInt (rw (((1800 * x) + (6 * k)) + 5).toNatClampNeg) = z1 at *
                  try generalize Int32.toInt (rw ((1800 * x) + (6 * k)).toNatClampNeg) = z2 at *
                  try generalize Int32.toInt (ct x.toNatClampNeg) = z3 at *
                  try generalize Int32.toInt r_108.2.1 = z4 at *
                  try generalize Int32.toInt r_160.2.1 = z5 at *
                  try generalize Int32.toInt r_185.2.1 = z6 at *
                  try generalize Int32.toInt r_210.2.1 = z7 at *
                  try generalize Int32.toInt r_295.2.1 = z8 at *
                  try generalize Int32.toInt wlz = z9 at *
                  try generalize Int32.toInt fi = z10 at *
                  try generalize Int32.toInt li = z11 at *
                  try generalize Int32.toInt (0 : Int32) = z12 at *
                  try generalize Int32.toInt k = z13 at *
                  try generalize Int32.toInt x = z14 at *
                  omega
                have v_338 : 0 ≤ r_295.2.1.toInt := by
                  have hq9 := hlin k (by omega) (by omega)
                  have q_339 := i_le c_91
                  have k_340 : (0 : Int32).toInt = 0 := by decide
                  have q_341 := i_ne c_92
                  have q_342 := i_le c_135
                  have q_343 := i_le c_267
                  try have hq7 := hct x.toNatClampNeg (cl_lt (by omega) (by omega))
                  try generalize Int32.toInt (rw (((1800 * x) + (6 * k)) + 2).toNatClampNeg) = z0 at *
                  try generalize Int32.toInt (rw (((1800 * x) + (6 * k)) + 5).toNatClampNeg) = z1 at *
                  try generalize Int32.toInt (rw ((1800 * x) + (6 * k)).toNatClampNeg) = z2 at *
                  try generalize Int32.toInt (ct x.toNatClampNeg) = z3 at *
                  try generalize Int32.toInt r_108.2.1 = z4 at *
                  try generalize Int32.toInt r_160.2.1 = z5 at *
                  try generalize Int32.toInt r_185.2.1 = z6 at *
                  try generalize Int32.toInt r_210.2.1 = z7 at *
                  try generalize Int32.toInt r_295.2.1 = z8 at *
                  try generalize Int32.toInt wlz = z9 at *
                  try generalize Int32.toInt fi = z10 at *
                  try generalize Int32.toInt li = z11 at *
                  try generalize Int32.toInt (0 : Int32) = z12 at *
                  try generalize Int32.toInt k = z13 at *
                  try generalize Int32.toInt x = z14 at *
                  omega
                have v_344 : r_295.2.1.toInt ≤ 6000 := by
                  have hq9 := hlin k (by omega) (by omega)
                  have q_345 := i_le c_91
                  have k_346 : (0 : Int32).toInt = 0 := by decide
                  have q_347 := i_ne c_92
                  have q_348 := i_le c_135
                  have q_349 := i_le c_267
                  try have hq7 := hct x.toNatClampNeg (cl_lt (by omega) (by omega))
                  try generalize Int32.toInt (rw (((1800 * x) + (6 * k)) + 2).toNatClampNeg) = z0 at *
                  try generalize Int32.toInt (rw (((1800 * x) + (6 * k)) + 5).toNatClampNeg) = z1 at *
                  try generalize Int32.toInt (rw ((1800 * x) + (6 * k)).toNatClampNeg) = z2 at *
                  try generalize Int32.toInt (ct x.toNatClampNeg) = z3 at *
                  try generalize Int32.toInt r_108.2.1 = z4 at *
                  try generalize Int32.toInt r_160.2.1 = z5 at *
                  try generalize Int32.toInt r_185.2.1 = z6 at *
                  try generalize Int32.toInt r_210.2.1 = z7 at *
                  try generalize Int32.toInt r_295.2.1 = z8 at *
                  try generalize Int32.toInt wlz = z9 at *
                  try generalize Int32.toInt fi = z10 at *
                  try generalize Int32.toInt li = z11 at *
                  try generalize Int32.toInt (0 : Int32) = z12 at *
                  try generalize Int32.toInt k = z13 at *
                  try generalize Int32.toInt x = z14 at *
                  omega
                have v_350 : ((k + 1)).toInt ≤ (ct x.toNatClampNeg).toInt := by
                  have hq9 := hlin k (by omega) (by omega)
                  have q_351 := i_le c_91
                  have k_352 : (0 : Int32).toInt = 0 := by decide
                  have q_353 := i_ne c_92
                  have q_354 := i_le c_135
                  have q_355 := i_le c_267
                  try have hq7 := hct x.toNatClampNeg (cl_lt (by omega) (by omega))
                  have k_356 : (1 : Int32).toInt = 1 := by decide
                  have t_357 := ti_add (a := k) (b := 1) (by omega) (by omega)
                  try generalize Int32.toInt (rw (((1800 * x) + (6 * k)) + 2).toNatClampNeg) = z0 at *
                  try generalize Int32.toInt (rw (((1800 * x) + (6 * k)) + 5).toNatClampNeg) = z1 at *
                  try generalize Int32.toInt (rw ((1800 * x) + (6 * k)).toNatClampNeg) = z2 at *
                  try generalize Int32.toInt (ct x.toNatClampNeg) = z3 at *
                  try generalize Int32.toInt r_108.2.1 = z4 at *
                  try generalize Int32.toInt r_160.2.1 = z5 at *
                  try generalize Int32.toInt r_185.2.1 = z6 at *
                  try generalize Int32.toInt r_210.2.1 = z7 at *
                  try generalize Int32.toInt r_295.2.1 = z8 at *
                  try generalize Int32.toInt (k + 1) = z9 at *
                  try generalize Int32.toInt wlz = z10 at *
                  try generalize Int32.toInt fi = z11 at *
                  try generalize Int32.toInt li = z12 at *
                  try generalize Int32.toInt (0 : Int32) = z13 at *
                  try generalize Int32.toInt (1 : Int32) = z14 at *
                  try generalize Int32.toInt k = z15 at *
                  try generalize Int32.toInt x = z16 at *
                  omega
                have v_358 : 3 * ((ct x.toNatClampNeg).toInt - ((k + 1)).toInt) + (200 - li.toInt) + 1 < ((n : Nat) : Int) := by
                  have hq9 := hlin k (by omega) (by omega)
                  have q_359 := i_le c_91
                  have k_360 : (0 : Int32).toInt = 0 := by decide
                  have q_361 := i_ne c_92
                  have q_362 := i_le c_135
                  have q_363 := i_le c_267
                  try have hq7 := hct x.toNatClampNeg (cl_lt (by omega) (by omega))
                  have k_364 : (1 : Int32).toInt = 1 := by decide
                  have t_365 := ti_add (a := k) (b := 1) (by omega) (by omega)
                  try generalize Int32.toInt (rw (((1800 * x) + (6 * k)) + 2).toNatClampNeg) = z0 at *
                  try generalize Int32.toInt (rw (((1800 * x) + (6 * k)) + 5).toNatClampNeg) = z1 at *
                  try generalize Int32.toInt (rw ((1800 * x) + (6 * k)).toNatClampNeg) = z2 at *
                  try generalize Int32.toInt (ct x.toNatClampNeg) = z3 at *
                  try generalize Int32.toInt r_108.2.1 = z4 at *
                  try generalize Int32.toInt r_160.2.1 = z5 at *
                  try generalize Int32.toInt r_185.2.1 = z6 at *
                  try generalize Int32.toInt r_210.2.1 = z7 at *
                  try generalize Int32.toInt r_295.2.1 = z8 at *
                  try generalize Int32.toInt (k + 1) = z9 at *
                  try generalize Int32.toInt wlz = z10 at *
                  try generalize Int32.toInt fi = z11 at *
                  try generalize Int32.toInt li = z12 at *
                  try generalize Int32.toInt (0 : Int32) = z13 at *
                  try generalize Int32.toInt (1 : Int32) = z14 at *
                  try generalize Int32.toInt k = z15 at *
                  try generalize Int32.toInt x = z16 at *
                  omega
                exact ih_48 (li) ((rw (((1800 * x) + (6 * k)) + 1).toNatClampNeg)) ((rw (((1800 * x) + (6 * k)) + 2).toNatClampNeg)) ((rw (((1800 * x) + (6 * k)) + 3).toNatClampNeg)) ((rw (((1800 * x) + (6 * k)) + 4).toNatClampNeg)) ((rw (((1800 * x) + (6 * k)) + 5).toNatClampNeg)) (0) ((k + 1)) (r_295.1) (r_295.2.1) (r_295.2.2) _ _ ls hR v_316 v_317 v_318 v_326 v_332 v_338 v_344 v_350 v_358 hP hD hS (lv_sub hl [7, 8, 9, 5, 4, 3, 2, 1, 6, 0] rfl)
              · rw [if_neg c_267] at hR
                refine lv_goto (tgt := 277) hx hb dX9_write_247 (by decide) ?_
                refine lv_iinc (v := (k + 1)) (lv' := [(9, .int (k + 1)), (6, .int (rw (((1800 * x) + (6 * k)) + 4).toNatClampNeg)), (5, .int (rw (((1800 * x) + (6 * k)) + 3).toNatClampNeg)), (4, .int (rw (((1800 * x) + (6 * k)) + 2).toNatClampNeg)), (3, .int (rw (((1800 * x) + (6 * k)) + 1).toNatClampNeg)), (8, .int 0), (0, .ref h0), (1, .int x), (2, .int li), (7, .int nm), (10, .int ((1800 * x) + (6 * k)))]) hx hb dX9_write_277 hl (k := 9) rfl rfl (by decide) rfl (fun ls hl => ?_)
                refine lv_goto (tgt := 48) hx hb dX9_write_280 (by decide) ?_
                have v_371 : 0 ≤ x.toInt := by
                  exact hx0
                have v_372 : x.toInt ≤ 1 := by
                  exact hx1
                have v_373 : 0 ≤ ((k + 1)).toInt := by
                  have hq9 := hlin k (by omega) (by omega)
                  have q_374 := i_le c_91
                  have k_375 : (0 : Int32).toInt = 0 := by decide
                  have q_376 := i_ne c_92
                  have q_377 := i_le c_135
                  have q_378 := i_nle c_267
                  try have hq7 := hct x.toNatClampNeg (cl_lt (by omega) (by omega))
                  have k_379 : (1 : Int32).toInt = 1 := by decide
                  have t_380 := ti_add (a := k) (b := 1) (by omega) (by omega)
                  try generalize Int32.toInt (rw (((1800 * x) + (6 * k)) + 2).toNatClampNeg) = z0 at *
                  try generalize Int32.toInt (rw (((1800 * x) + (6 * k)) + 5).toNatClampNeg) = z1 at *
                  try generalize Int32.toInt (rw ((1800 * x) + (6 * k)).toNatClampNeg) = z2 at *
                  try generalize Int32.toInt (ct x.toNatClampNeg) = z3 at *
                  try generalize Int32.toInt r_108.2.1 = z4 at *
                  try generalize Int32.toInt r_160.2.1 = z5 at *
                  try generalize Int32.toInt r_185.2.1 = z6 at *
                  try generalize Int32.toInt r_210.2.1 = z7 at *
                  try generalize Int32.toInt (k + 1) = z8 at *
                  try generalize Int32.toInt wlz = z9 at *
                  try generalize Int32.toInt fi = z10 at *
                  try generalize Int32.toInt li = z11 at *
                  try generalize Int32.toInt (0 : Int32) = z12 at *
                  try generalize Int32.toInt (1 : Int32) = z13 at *
                  try generalize Int32.toInt k = z14 at *
                  try generalize Int32.toInt x = z15 at *
                  omega
                have v_381 : 0 ≤ li.toInt := by
                  have hq9 := hlin k (by omega) (by omega)
                  have q_382 := i_le c_91
                  have k_383 : (0 : Int32).toInt = 0 := by decide
                  have q_384 := i_ne c_92
                  have q_385 := i_le c_135
                  have q_386 := i_nle c_267
                  try have hq7 := hct x.toNatClampNeg (cl_lt (by omega) (by omega))
                  try generalize Int32.toInt (rw (((1800 * x) + (6 * k)) + 2).toNatClampNeg) = z0 at *
                  try generalize Int32.toInt (rw (((1800 * x) + (6 * k)) + 5).toNatClampNeg) = z1 at *
                  try generalize Int32.toInt (rw ((1800 * x) + (6 * k)).toNatClampNeg) = z2 at *
                  try generalize Int32.toInt (ct x.toNatClampNeg) = z3 at *
                  try generalize Int32.toInt r_108.2.1 = z4 at *
                  try generalize Int32.toInt r_160.2.1 = z5 at *
                  try generalize Int32.toInt r_185.2.1 = z6 at *
                  try generalize Int32.toInt r_210.2.1 = z7 at *
                  try generalize Int32.toInt wlz = z8 at *
                  try generalize Int32.toInt fi = z9 at *
                  try generalize Int32.toInt li = z10 at *
                  try generalize Int32.toInt (0 : Int32) = z11 at *
                  try generalize Int32.toInt k = z12 at *
                  try generalize Int32.toInt x = z13 at *
                  omega
                have v_387 : li.toInt ≤ 199 := by
                  have hq9 := hlin k (by omega) (by omega)
                  have q_388 := i_le c_91
                  have k_389 : (0 : Int32).toInt = 0 := by decide
                  have q_390 := i_ne c_92
                  have q_391 := i_le c_135
                  have q_392 := i_nle c_267
                  try have hq7 := hct x.toNatClampNeg (cl_lt (by omega) (by omega))
                  try generalize Int32.toInt (rw (((1800 * x) + (6 * k)) + 2).toNatClampNeg) = z0 at *
                  try generalize Int32.toInt (rw (((1800 * x) + (6 * k)) + 5).toNatClampNeg) = z1 at *
                  try generalize Int32.toInt (rw ((1800 * x) + (6 * k)).toNatClampNeg) = z2 at *
                  try generalize Int32.toInt (ct x.toNatClampNeg) = z3 at *
                  try generalize Int32.toInt r_108.2.1 = z4 at *
                  try generalize Int32.toInt r_160.2.1 = z5 at *
                  try generalize Int32.toInt r_185.2.1 = z6 at *
                  try generalize Int32.toInt r_210.2.1 = z7 at *
                  try generalize Int32.toInt wlz = z8 at *
                  try generalize Int32.toInt fi = z9 at *
                  try generalize Int32.toInt li = z10 at *
                  try generalize Int32.toInt (0 : Int32) = z11 at *
                  try generalize Int32.toInt k = z12 at *
                  try generalize Int32.toInt x = z13 at *
                  omega
                have v_393 : 0 ≤ r_210.2.1.toInt := by
                  have hq9 := hlin k (by omega) (by omega)
                  have q_394 := i_le c_91
                  have k_395 : (0 : Int32).toInt = 0 := by decide
                  have q_396 := i_ne c_92
                  have q_397 := i_le c_135
                  have q_398 := i_nle c_267
                  try have hq7 := hct x.toNatClampNeg (cl_lt (by omega) (by omega))
                  try generalize Int32.toInt (rw (((1800 * x) + (6 * k)) + 2).toNatClampNeg) = z0 at *
                  try generalize Int32.toInt (rw (((1800 * x) + (6 * k)) + 5).toNatClampNeg) = z1 at *
                  try generalize Int32.toInt (rw ((1800 * x) + (6 * k)).toNatClampNeg) = z2 at *
                  try generalize Int32.toInt (ct x.toNatClampNeg) = z3 at *
                  try generalize Int32.toInt r_108.2.1 = z4 at *
                  try generalize Int32.toInt r_160.2.1 = z5 at *
                  try generalize Int32.toInt r_185.2.1 = z6 at *
                  try generalize Int32.toInt r_210.2.1 = z7 at *
                  try generalize Int32.toInt wlz = z8 at *
                  try generalize Int32.toInt fi = z9 at *
                  try generalize Int32.toInt li = z10 at *
                  try generalize Int32.toInt (0 : Int32) = z11 at *
                  try generalize Int32.toInt k = z12 at *
                  try generalize Int32.toInt x = z13 at *
                  omega
                have v_399 : r_210.2.1.toInt ≤ 6000 := by
                  have hq9 := hlin k (by omega) (by omega)
                  have q_400 := i_le c_91
                  have k_401 : (0 : Int32).toInt = 0 := by decide
                  have q_402 := i_ne c_92
                  have q_403 := i_le c_135
                  have q_404 := i_nle c_267
                  try have hq7 := hct x.toNatClampNeg (cl_lt (by omega) (by omega))
                  try generalize Int32.toInt (rw (((1800 * x) + (6 * k)) + 2).toNatClampNeg) = z0 at *
                  try generalize Int32.toInt (rw (((1800 * x) + (6 * k)) + 5).toNatClampNeg) = z1 at *
                  try generalize Int32.toInt (rw ((1800 * x) + (6 * k)).toNatClampNeg) = z2 at *
                  try generalize Int32.toInt (ct x.toNatClampNeg) = z3 at *
                  try generalize Int32.toInt r_108.2.1 = z4 at *
                  try generalize Int32.toInt r_160.2.1 = z5 at *
                  try generalize Int32.toInt r_185.2.1 = z6 at *
                  try generalize Int32.toInt r_210.2.1 = z7 at *
                  try generalize Int32.toInt wlz = z8 at *
                  try generalize Int32.toInt fi = z9 at *
                  try generalize Int32.toInt li = z10 at *
                  try generalize Int32.toInt (0 : Int32) = z11 at *
                  try generalize Int32.toInt k = z12 at *
                  try generalize Int32.toInt x = z13 at *
                  omega
                have v_405 : ((k + 1)).toInt ≤ (ct x.toNatClampNeg).toInt := by
                  have hq9 := hlin k (by omega) (by omega)
                  have q_406 := i_le c_91
                  have k_407 : (0 : Int32).toInt = 0 := by decide
                  have q_408 := i_ne c_92
                  have q_409 := i_le c_135
                  have q_410 := i_nle c_267
                  try have hq7 := hct x.toNatClampNeg (cl_lt (by omega) (by omega))
                  have k_411 : (1 : Int32).toInt = 1 := by decide
                  have t_412 := ti_add (a := k) (b := 1) (by omega) (by omega)
                  try generalize Int32.toInt (rw (((1800 * x) + (6 * k)) + 2).toNatClampNeg) = z0 at *
                  try generalize Int32.toInt (rw (((1800 * x) + (6 * k)) + 5).toNatClampNeg) = z1 at *
                  try generalize Int32.toInt (rw ((1800 * x) + (6 * k)).toNatClampNeg) = z2 at *
                  try generalize Int32.toInt (ct x.toNatClampNeg) = z3 at *
                  try generalize Int32.toInt r_108.2.1 = z4 at *
                  try generalize Int32.toInt r_160.2.1 = z5 at *
                  try generalize Int32.toInt r_185.2.1 = z6 at *
                  try generalize Int32.toInt r_210.2.1 = z7 at *
                  try generalize Int32.toInt (k + 1) = z8 at *
                  try generalize Int32.toInt wlz = z9 at *
                  try generalize Int32.toInt fi = z10 at *
                  try generalize Int32.toInt li = z11 at *
                  try generalize Int32.toInt (0 : Int32) = z12 at *
                  try generalize Int32.toInt (1 : Int32) = z13 at *
                  try generalize Int32.toInt k = z14 at *
                  try generalize Int32.toInt x = z15 at *
                  omega
                have v_413 : 3 * ((ct x.toNatClampNeg).toInt - ((k + 1)).toInt) + (200 - li.toInt) + 1 < ((n : Nat) : Int) := by
                  have hq9 := hlin k (by omega) (by omega)
                  have q_414 := i_le c_91
                  have k_415 : (0 : Int32).toInt = 0 := by decide
                  have q_416 := i_ne c_92
                  have q_417 := i_le c_135
                  have q_418 := i_nle c_267
                  try have hq7 := hct x.toNatClampNeg (cl_lt (by omega) (by omega))
                  have k_419 : (1 : Int32).toInt = 1 := by decide
                  have t_420 := ti_add (a := k) (b := 1) (by omega) (by omega)
                  try generalize Int32.toInt (rw (((1800 * x) + (6 * k)) + 2).toNatClampNeg) = z0 at *
                  try generalize Int32.toInt (rw (((1800 * x) + (6 * k)) + 5).toNatClampNeg) = z1 at *
                  try generalize Int32.toInt (rw ((1800 * x) + (6 * k)).toNatClampNeg) = z2 at *
                  try generalize Int32.toInt (ct x.toNatClampNeg) = z3 at *
                  try generalize Int32.toInt r_108.2.1 = z4 at *
                  try generalize Int32.toInt r_160.2.1 = z5 at *
                  try generalize Int32.toInt r_185.2.1 = z6 at *
                  try generalize Int32.toInt r_210.2.1 = z7 at *
                  try generalize Int32.toInt (k + 1) = z8 at *
                  try generalize Int32.toInt wlz = z9 at *
                  try generalize Int32.toInt fi = z10 at *
                  try generalize Int32.toInt li = z11 at *
                  try generalize Int32.toInt (0 : Int32) = z12 at *
                  try generalize Int32.toInt (1 : Int32) = z13 at *
                  try generalize Int32.toInt k = z14 at *
                  try generalize Int32.toInt x = z15 at *
                  omega
                exact ih_48 (li) ((rw (((1800 * x) + (6 * k)) + 1).toNatClampNeg)) ((rw (((1800 * x) + (6 * k)) + 2).toNatClampNeg)) ((rw (((1800 * x) + (6 * k)) + 3).toNatClampNeg)) ((rw (((1800 * x) + (6 * k)) + 4).toNatClampNeg)) (nm) (0) ((k + 1)) (r_210.1) (r_210.2.1) (r_210.2.2) _ _ ls hR v_371 v_372 v_373 v_381 v_387 v_393 v_399 v_405 v_413 hP hD hS (lv_sub hl [6, 7, 8, 4, 3, 2, 1, 9, 5, 0] rfl)
            · rw [if_neg c_135] at hR
              refine lv_goto (tgt := 277) hx hb dX9_write_151 (by decide) ?_
              refine lv_iinc (v := (k + 1)) (lv' := [(9, .int (k + 1)), (3, .int (rw (((1800 * x) + (6 * k)) + 1).toNatClampNeg)), (8, .int 0), (0, .ref h0), (1, .int x), (2, .int li), (4, .int so), (5, .int sl), (6, .int sc), (7, .int nm), (10, .int ((1800 * x) + (6 * k)))]) hx hb dX9_write_277 hl (k := 9) rfl rfl (by decide) rfl (fun ls hl => ?_)
              refine lv_goto (tgt := 48) hx hb dX9_write_280 (by decide) ?_
              have v_425 : 0 ≤ x.toInt := by
                exact hx0
              have v_426 : x.toInt ≤ 1 := by
                exact hx1
              have v_427 : 0 ≤ ((k + 1)).toInt := by
                have hq9 := hlin k (by omega) (by omega)
                have q_428 := i_le c_91
                have k_429 : (0 : Int32).toInt = 0 := by decide
                have q_430 := i_ne c_92
                have q_431 := i_nle c_135
                try have hq7 := hct x.toNatClampNeg (cl_lt (by omega) (by omega))
                have k_432 : (1 : Int32).toInt = 1 := by decide
                have t_433 := ti_add (a := k) (b := 1) (by omega) (by omega)
                try generalize Int32.toInt (rw (((1800 * x) + (6 * k)) + 2).toNatClampNeg) = z0 at *
                try generalize Int32.toInt (rw ((1800 * x) + (6 * k)).toNatClampNeg) = z1 at *
                try generalize Int32.toInt (ct x.toNatClampNeg) = z2 at *
                try generalize Int32.toInt r_108.2.1 = z3 at *
                try generalize Int32.toInt (k + 1) = z4 at *
                try generalize Int32.toInt wlz = z5 at *
                try generalize Int32.toInt fi = z6 at *
                try generalize Int32.toInt li = z7 at *
                try generalize Int32.toInt (0 : Int32) = z8 at *
                try generalize Int32.toInt (1 : Int32) = z9 at *
                try generalize Int32.toInt k = z10 at *
                try generalize Int32.toInt x = z11 at *
                omega
              have v_434 : 0 ≤ li.toInt := by
                have hq9 := hlin k (by omega) (by omega)
                have q_435 := i_le c_91
                have k_436 : (0 : Int32).toInt = 0 := by decide
                have q_437 := i_ne c_92
                have q_438 := i_nle c_135
                try have hq7 := hct x.toNatClampNeg (cl_lt (by omega) (by omega))
                try generalize Int32.toInt (rw (((1800 * x) + (6 * k)) + 2).toNatClampNeg) = z0 at *
                try generalize Int32.toInt (rw ((1800 * x) + (6 * k)).toNatClampNeg) = z1 at *
                try generalize Int32.toInt (ct x.toNatClampNeg) = z2 at *
                try generalize Int32.toInt r_108.2.1 = z3 at *
                try generalize Int32.toInt wlz = z4 at *
                try generalize Int32.toInt fi = z5 at *
                try generalize Int32.toInt li = z6 at *
                try generalize Int32.toInt (0 : Int32) = z7 at *
                try generalize Int32.toInt k = z8 at *
                try generalize Int32.toInt x = z9 at *
                omega
              have v_439 : li.toInt ≤ 199 := by
                have hq9 := hlin k (by omega) (by omega)
                have q_440 := i_le c_91
                have k_441 : (0 : Int32).toInt = 0 := by decide
                have q_442 := i_ne c_92
                have q_443 := i_nle c_135
                try have hq7 := hct x.toNatClampNeg (cl_lt (by omega) (by omega))
                try generalize Int32.toInt (rw (((1800 * x) + (6 * k)) + 2).toNatClampNeg) = z0 at *
                try generalize Int32.toInt (rw ((1800 * x) + (6 * k)).toNatClampNeg) = z1 at *
                try generalize Int32.toInt (ct x.toNatClampNeg) = z2 at *
                try generalize Int32.toInt r_108.2.1 = z3 at *
                try generalize Int32.toInt wlz = z4 at *
                try generalize Int32.toInt fi = z5 at *
                try generalize Int32.toInt li = z6 at *
                try generalize Int32.toInt (0 : Int32) = z7 at *
                try generalize Int32.toInt k = z8 at *
                try generalize Int32.toInt x = z9 at *
                omega
              have v_444 : 0 ≤ r_108.2.1.toInt := by
                have hq9 := hlin k (by omega) (by omega)
                have q_445 := i_le c_91
                have k_446 : (0 : Int32).toInt = 0 := by decide
                have q_447 := i_ne c_92
                have q_448 := i_nle c_135
                try have hq7 := hct x.toNatClampNeg (cl_lt (by omega) (by omega))
                try generalize Int32.toInt (rw (((1800 * x) + (6 * k)) + 2).toNatClampNeg) = z0 at *
                try generalize Int32.toInt (rw ((1800 * x) + (6 * k)).toNatClampNeg) = z1 at *
                try generalize Int32.toInt (ct x.toNatClampNeg) = z2 at *
                try generalize Int32.toInt r_108.2.1 = z3 at *
                try generalize Int32.toInt wlz = z4 at *
                try generalize Int32.toInt fi = z5 at *
                try generalize Int32.toInt li = z6 at *
                try generalize Int32.toInt (0 : Int32) = z7 at *
                try generalize Int32.toInt k = z8 at *
                try generalize Int32.toInt x = z9 at *
                omega
              have v_449 : r_108.2.1.toInt ≤ 6000 := by
                have hq9 := hlin k (by omega) (by omega)
                have q_450 := i_le c_91
                have k_451 : (0 : Int32).toInt = 0 := by decide
                have q_452 := i_ne c_92
                have q_453 := i_nle c_135
                try have hq7 := hct x.toNatClampNeg (cl_lt (by omega) (by omega))
                try generalize Int32.toInt (rw (((1800 * x) + (6 * k)) + 2).toNatClampNeg) = z0 at *
                try generalize Int32.toInt (rw ((1800 * x) + (6 * k)).toNatClampNeg) = z1 at *
                try generalize Int32.toInt (ct x.toNatClampNeg) = z2 at *
                try generalize Int32.toInt r_108.2.1 = z3 at *
                try generalize Int32.toInt wlz = z4 at *
                try generalize Int32.toInt fi = z5 at *
                try generalize Int32.toInt li = z6 at *
                try generalize Int32.toInt (0 : Int32) = z7 at *
                try generalize Int32.toInt k = z8 at *
                try generalize Int32.toInt x = z9 at *
                omega
              have v_454 : ((k + 1)).toInt ≤ (ct x.toNatClampNeg).toInt := by
                have hq9 := hlin k (by omega) (by omega)
                have q_455 := i_le c_91
                have k_456 : (0 : Int32).toInt = 0 := by decide
                have q_457 := i_ne c_92
                have q_458 := i_nle c_135
                try have hq7 := hct x.toNatClampNeg (cl_lt (by omega) (by omega))
                have k_459 : (1 : Int32).toInt = 1 := by decide
                have t_460 := ti_add (a := k) (b := 1) (by omega) (by omega)
                try generalize Int32.toInt (rw (((1800 * x) + (6 * k)) + 2).toNatClampNeg) = z0 at *
                try generalize Int32.toInt (rw ((1800 * x) + (6 * k)).toNatClampNeg) = z1 at *
                try generalize Int32.toInt (ct x.toNatClampNeg) = z2 at *
                try generalize Int32.toInt r_108.2.1 = z3 at *
                try generalize Int32.toInt (k + 1) = z4 at *
                try generalize Int32.toInt wlz = z5 at *
                try generalize Int32.toInt fi = z6 at *
                try generalize Int32.toInt li = z7 at *
                try generalize Int32.toInt (0 : Int32) = z8 at *
                try generalize Int32.toInt (1 : Int32) = z9 at *
                try generalize Int32.toInt k = z10 at *
                try generalize Int32.toInt x = z11 at *
                omega
              have v_461 : 3 * ((ct x.toNatClampNeg).toInt - ((k + 1)).toInt) + (200 - li.toInt) + 1 < ((n : Nat) : Int) := by
                have hq9 := hlin k (by omega) (by omega)
                have q_462 := i_le c_91
                have k_463 : (0 : Int32).toInt = 0 := by decide
                have q_464 := i_ne c_92
                have q_465 := i_nle c_135
                try have hq7 := hct x.toNatClampNeg (cl_lt (by omega) (by omega))
                have k_466 : (1 : Int32).toInt = 1 := by decide
                have t_467 := ti_add (a := k) (b := 1) (by omega) (by omega)
                try generalize Int32.toInt (rw (((1800 * x) + (6 * k)) + 2).toNatClampNeg) = z0 at *
                try generalize Int32.toInt (rw ((1800 * x) + (6 * k)).toNatClampNeg) = z1 at *
                try generalize Int32.toInt (ct x.toNatClampNeg) = z2 at *
                try generalize Int32.toInt r_108.2.1 = z3 at *
                try generalize Int32.toInt (k + 1) = z4 at *
                try generalize Int32.toInt wlz = z5 at *
                try generalize Int32.toInt fi = z6 at *
                try generalize Int32.toInt li = z7 at *
                try generalize Int32.toInt (0 : Int32) = z8 at *
                try generalize Int32.toInt (1 : Int32) = z9 at *
                try generalize Int32.toInt k = z10 at *
                try generalize Int32.toInt x = z11 at *
                omega
              exact ih_48 (li) ((rw (((1800 * x) + (6 * k)) + 1).toNatClampNeg)) (so) (sl) (sc) (nm) (0) ((k + 1)) (r_108.1) (r_108.2.1) (r_108.2.2) _ _ ls hR v_425 v_426 v_427 v_434 v_439 v_444 v_449 v_454 v_461 hP hD hS (lv_sub hl [3, 4, 5, 1, 6, 7, 8, 9, 2, 0] rfl)
          · rw [if_pos c_92] at hR
            refine lv_aload_n hx hb dX9_write_105 rfl (lv_at hl 0 rfl) ?_
            refine lv_bipush (v := 44) hx hb dX9_write_106 (by decide) ?_
            have p_468 : 0 ≤ wlz.toInt := by
              exact hz0
            have p_469 : wlz.toInt ≤ 6000 := by
              exact hz1
            have hPc := hP.sub (ws' := [(h0, .inr (9, [.int 0, .ref a0, .ref a1, .ref a2, .int dc, .ref a3, .int tl, .ref a4, .int xl, .int fo, .int fa, .ref a5, .int mn, .ref a6, .int ftz, .ref a7, .int wlz])), (a7, .inl (cB, 6000, .inl wz))]) [0, 4] rfl
            have hDc := hD.sub (ws' := [(h0, .inr (9, [.int 0, .ref a0, .ref a1, .ref a2, .int dc, .ref a3, .int tl, .ref a4, .int xl, .int fo, .int fa, .ref a5, .int mn, .ref a6, .int ftz, .ref a7, .int wlz])), (a7, .inl (cB, 6000, .inl wz))]) [0, 4] (by decide) rfl
            have hFc := va_free (wc := [(h0, .inr (9, [.int 0, .ref a0, .ref a1, .ref a2, .int dc, .ref a3, .int tl, .ref a4, .int xl, .int fo, .int fa, .ref a5, .int mn, .ref a6, .int ftz, .ref a7, .int wlz])), (a7, .inl (cB, 6000, .inl wz))]) hD hS hA [0, 4] rfl
            refine va_callv (va_runV (As := [.int 44]) (rest := []) ⟨hx, hb, hml, hown, hts⟩ (c_X9_add l dC dI cB cC cI cJ H.size h0 a0 a1 a2 a3 a4 a5 a6 a7 0 dc tl xl fo fa mn ftz wlz wz 44 p_468 p_469) (cwV 1 hts gX9_write_X9_add rfl rfl rfl (by decide +kernel) ⟨(Nat.le_of_ble_eq_true rfl), (Nat.le_of_ble_eq_true rfl)⟩) ⟨cP_blind, va_recv hG.1 hPc (ci := 9) (q0 := 0) rfl rfl, cP_pre hPc hG hDc⟩ rfl rfl hl.1 rfl (lv_room (Nat.le_of_ble_eq_true rfl)) dX9_write_108 ⟨Nat.le_of_ble_eq_true rfl, Nat.le_of_ble_eq_true rfl⟩) hS (fun q _ h => hFc q h) hFc (fun u t H1 locs ht hvm hw hB hz1 hk1 hS => ?_)
            obtain ⟨hP1, hD1⟩ := hB
            rw [ht] at hP1
            generalize hr_470 : fX9_add 0 dc tl xl fo fa mn ftz wlz wz 44 = r_470 at hP1 hD1 hw
            have er_470_0 := hw
            rw [bnd_eq hr_470] at hR
            obtain ⟨hP, hD⟩ := va_join (wr := [(a0, .inl (cI, 3600, .inl rw)), (a1, .inl (cI, 2, .inl ct)), (a4, .inl (cB, 6000, .inl tx))]) (w1 := [(h0, .inr (9, [.int 0, .ref a0, .ref a1, .ref a2, .int dc, .ref a3, .int tl, .ref a4, .int xl, .int fo, .int fa, .ref a5, .int mn, .ref a6, .int r_470.1, .ref a7, .int r_470.2.1])), (a7, .inl (cB, 6000, .inl r_470.2.2))]) hP hD [0, 4] [1, 2, 3] rfl rfl (by decide) (by decide) hk1 hFc hP1 hD1
            generalize H1 = H at hP hS ⊢
            have hP := hP.sub (ws' := [(h0, .inr (9, [.int 0, .ref a0, .ref a1, .ref a2, .int dc, .ref a3, .int tl, .ref a4, .int xl, .int fo, .int fa, .ref a5, .int mn, .ref a6, .int r_470.1, .ref a7, .int r_470.2.1])), (a0, .inl (cI, 3600, .inl rw)), (a1, .inl (cI, 2, .inl ct)), (a4, .inl (cB, 6000, .inl tx)), (a7, .inl (cB, 6000, .inl r_470.2.2))]) [3, 0, 1, 2, 4] rfl
            have hD := hD.sub (ws' := [(h0, .inr (9, [.int 0, .ref a0, .ref a1, .ref a2, .int dc, .ref a3, .int tl, .ref a4, .int xl, .int fo, .int fa, .ref a5, .int mn, .ref a6, .int r_470.1, .ref a7, .int r_470.2.1])), (a0, .inl (cI, 3600, .inl rw)), (a1, .inl (cI, 2, .inl ct)), (a4, .inl (cB, 6000, .inl tx)), (a7, .inl (cB, 6000, .inl r_470.2.2))]) [3, 0, 1, 2, 4] (by decide) rfl
            refine lv_iconst (v := 0) hx hb dX9_write_111 (by decide) ?_
            refine lv_istore (lv' := [(8, .int 0), (0, .ref h0), (1, .int x), (2, .int li), (3, .int co), (4, .int so), (5, .int sl), (6, .int sc), (7, .int nm), (9, .int k), (10, .int ((1800 * x) + (6 * k)))]) hx hb dX9_write_112 hl (by decide) rfl (fun ls hl => ?_)
            refine lv_aload_n hx hb dX9_write_114 rfl (lv_at hl 1 rfl) ?_
            refine lv_aload_n hx hb dX9_write_115 rfl (lv_at hl 1 rfl) ?_
            refine va_get (D := (dC, dI)) (ci := 9) (v := .ref a0) (C := RX9) (T := TX9) (N := 17) hx hb hts inc_X9_write_9 hown hG.1 hP 0 rfl rfl 1 (by decide) (hts (.fieldLink RX9 13 "MappingDeskModel" "rows" "[I") (by decide +kernel)) (fun _ h9 => h9) rfl dX9_write_116 ?_
            refine lv_iload hx hb dX9_write_119 (lv_at hl 10 rfl) ?_
            refine lv_iconst (v := 1) hx hb dX9_write_121 (by decide) ?_
            refine lv_iadd hx hb dX9_write_122 ?_
            have b_471 : vp_in (((1800 * x) + (6 * k)) + 1) 3600 := by
              have hq9 := hlin k (by omega) (by omega)
              have q_472 := i_le c_91
              have k_473 : (0 : Int32).toInt = 0 := by decide
              have q_474 := i_eq c_92
              try have hq7 := hct x.toNatClampNeg (cl_lt (by omega) (by omega))
              have k_475 : (1800 : Int32).toInt = 1800 := by decide
              have t_476 : ((1800 * x)).toInt = 1800 * (x).toInt := by
                have z := ti_mul (a := 1800) (b := x) (by rw [show (1800 : Int32).toInt = 1800 from by decide]; omega) (by rw [show (1800 : Int32).toInt = 1800 from by decide]; omega)
                rw [z, show (1800 : Int32).toInt = 1800 from by decide]
              have k_477 : (6 : Int32).toInt = 6 := by decide
              have t_478 : ((6 * k)).toInt = 6 * (k).toInt := by
                have z := ti_mul (a := 6) (b := k) (by rw [show (6 : Int32).toInt = 6 from by decide]; omega) (by rw [show (6 : Int32).toInt = 6 from by decide]; omega)
                rw [z, show (6 : Int32).toInt = 6 from by decide]
              have t_479 := ti_add (a := (1800 * x)) (b := (6 * k)) (by omega) (by omega)
              have k_480 : (1 : Int32).toInt = 1 := by decide
              have t_481 := ti_add (a := ((1800 * x) + (6 * k))) (b := 1) (by omega) (by omega)
              refine vin ?_ ?_
              all_goals (try generalize Int32.toInt (rw ((1800 * x) + (6 * k)).toNatClampNeg) = z0 at *; try generalize Int32.toInt (((1800 * x) + (6 * k)) + 1) = z1 at *; try generalize Int32.toInt ((1800 * x) + (6 * k)) = z2 at *; try generalize Int32.toInt (ct x.toNatClampNeg) = z3 at *; try generalize Int32.toInt (1800 * x) = z4 at *; try generalize Int32.toInt r_470.2.1 = z5 at *; try generalize Int32.toInt (6 * k) = z6 at *; try generalize Int32.toInt (1800 : Int32) = z7 at *; try generalize Int32.toInt wlz = z8 at *; try generalize Int32.toInt fi = z9 at *; try generalize Int32.toInt li = z10 at *; try generalize Int32.toInt (0 : Int32) = z11 at *; try generalize Int32.toInt (1 : Int32) = z12 at *; try generalize Int32.toInt (6 : Int32) = z13 at *; try generalize Int32.toInt k = z14 at *; try generalize Int32.toInt x = z15 at *; omega)
            refine va_iald hx hb hG.1 hP 1 2 rfl rfl b_471 dX9_write_123 ?_
            refine lv_iload_n hx hb dX9_write_124 rfl (lv_at hl 4 rfl) ?_
            refine lv_isub hx hb dX9_write_125 ?_
            have p_484 : 0 ≤ r_470.2.1.toInt := by
              have hq9 := hlin k (by omega) (by omega)
              have q_485 := i_le c_91
              have k_486 : (0 : Int32).toInt = 0 := by decide
              have q_487 := i_eq c_92
              try have hq7 := hct x.toNatClampNeg (cl_lt (by omega) (by omega))
              try generalize Int32.toInt (rw ((1800 * x) + (6 * k)).toNatClampNeg) = z0 at *
              try generalize Int32.toInt (ct x.toNatClampNeg) = z1 at *
              try generalize Int32.toInt r_470.2.1 = z2 at *
              try generalize Int32.toInt wlz = z3 at *
              try generalize Int32.toInt fi = z4 at *
              try generalize Int32.toInt li = z5 at *
              try generalize Int32.toInt (0 : Int32) = z6 at *
              try generalize Int32.toInt k = z7 at *
              try generalize Int32.toInt x = z8 at *
              first | omega | exact ⟨by omega, by omega⟩
            have p_488 : r_470.2.1.toInt ≤ 6000 := by
              have hq9 := hlin k (by omega) (by omega)
              have q_489 := i_le c_91
              have k_490 : (0 : Int32).toInt = 0 := by decide
              have q_491 := i_eq c_92
              try have hq7 := hct x.toNatClampNeg (cl_lt (by omega) (by omega))
              try generalize Int32.toInt (rw ((1800 * x) + (6 * k)).toNatClampNeg) = z0 at *
              try generalize Int32.toInt (ct x.toNatClampNeg) = z1 at *
              try generalize Int32.toInt r_470.2.1 = z2 at *
              try generalize Int32.toInt wlz = z3 at *
              try generalize Int32.toInt fi = z4 at *
              try generalize Int32.toInt li = z5 at *
              try generalize Int32.toInt (0 : Int32) = z6 at *
              try generalize Int32.toInt k = z7 at *
              try generalize Int32.toInt x = z8 at *
              first | omega | exact ⟨by omega, by omega⟩
            have hPc := hP.sub (ws' := [(h0, .inr (9, [.int 0, .ref a0, .ref a1, .ref a2, .int dc, .ref a3, .int tl, .ref a4, .int xl, .int fo, .int fa, .ref a5, .int mn, .ref a6, .int r_470.1, .ref a7, .int r_470.2.1])), (a7, .inl (cB, 6000, .inl r_470.2.2))]) [0, 4] rfl
            have hDc := hD.sub (ws' := [(h0, .inr (9, [.int 0, .ref a0, .ref a1, .ref a2, .int dc, .ref a3, .int tl, .ref a4, .int xl, .int fo, .int fa, .ref a5, .int mn, .ref a6, .int r_470.1, .ref a7, .int r_470.2.1])), (a7, .inl (cB, 6000, .inl r_470.2.2))]) [0, 4] (by decide) rfl
            have hFc := va_free (wc := [(h0, .inr (9, [.int 0, .ref a0, .ref a1, .ref a2, .int dc, .ref a3, .int tl, .ref a4, .int xl, .int fo, .int fa, .ref a5, .int mn, .ref a6, .int r_470.1, .ref a7, .int r_470.2.1])), (a7, .inl (cB, 6000, .inl r_470.2.2))]) hD hS hA [0, 4] rfl
            refine va_callv (va_runV (As := [.int ((rw (((1800 * x) + (6 * k)) + 1).toNatClampNeg) - co)]) (rest := []) ⟨hx, hb, hml, hown, hts⟩ (c_X9_addNumber l dC dI cB cC cI cJ H.size h0 a0 a1 a2 a3 a4 a5 a6 a7 0 dc tl xl fo fa mn r_470.1 r_470.2.1 r_470.2.2 ((rw (((1800 * x) + (6 * k)) + 1).toNatClampNeg) - co) p_484 p_488) (cwV 1 hts gX9_write_X9_addNumber rfl rfl rfl (by decide +kernel) ⟨(Nat.le_of_ble_eq_true rfl), (Nat.le_of_ble_eq_true rfl)⟩) ⟨cP_blind, va_recv hG.1 hPc (ci := 9) (q0 := 0) rfl rfl, cP_pre hPc hG hDc⟩ rfl rfl hl.1 rfl (lv_room (Nat.le_of_ble_eq_true rfl)) dX9_write_126 ⟨Nat.le_of_ble_eq_true rfl, Nat.le_of_ble_eq_true rfl⟩) hS (fun q _ h => hFc q h) hFc (fun u t H1 locs ht hvm hw hB hz1 hk1 hS => ?_)
            obtain ⟨hP1, hD1⟩ := hB
            rw [ht] at hP1
            generalize hr_492 : fX9_addNumber 0 dc tl xl fo fa mn r_470.1 r_470.2.1 r_470.2.2 ((rw (((1800 * x) + (6 * k)) + 1).toNatClampNeg) - co) = r_492 at hP1 hD1 hw
            have er_492_0 := hw
            rw [bnd_eq hr_492] at hR
            obtain ⟨hP, hD⟩ := va_join (wr := [(a0, .inl (cI, 3600, .inl rw)), (a1, .inl (cI, 2, .inl ct)), (a4, .inl (cB, 6000, .inl tx))]) (w1 := [(h0, .inr (9, [.int 0, .ref a0, .ref a1, .ref a2, .int dc, .ref a3, .int tl, .ref a4, .int xl, .int fo, .int fa, .ref a5, .int mn, .ref a6, .int r_492.1, .ref a7, .int r_492.2.1])), (a7, .inl (cB, 6000, .inl r_492.2.2))]) hP hD [0, 4] [1, 2, 3] rfl rfl (by decide) (by decide) hk1 hFc hP1 hD1
            generalize H1 = H at hP hS ⊢
            have hP := hP.sub (ws' := [(h0, .inr (9, [.int 0, .ref a0, .ref a1, .ref a2, .int dc, .ref a3, .int tl, .ref a4, .int xl, .int fo, .int fa, .ref a5, .int mn, .ref a6, .int r_492.1, .ref a7, .int r_492.2.1])), (a0, .inl (cI, 3600, .inl rw)), (a1, .inl (cI, 2, .inl ct)), (a4, .inl (cB, 6000, .inl tx)), (a7, .inl (cB, 6000, .inl r_492.2.2))]) [3, 0, 1, 2, 4] rfl
            have hD := hD.sub (ws' := [(h0, .inr (9, [.int 0, .ref a0, .ref a1, .ref a2, .int dc, .ref a3, .int tl, .ref a4, .int xl, .int fo, .int fa, .ref a5, .int mn, .ref a6, .int r_492.1, .ref a7, .int r_492.2.1])), (a0, .inl (cI, 3600, .inl rw)), (a1, .inl (cI, 2, .inl ct)), (a4, .inl (cB, 6000, .inl tx)), (a7, .inl (cB, 6000, .inl r_492.2.2))]) [3, 0, 1, 2, 4] (by decide) rfl
            refine lv_aload_n hx hb dX9_write_129 rfl (lv_at hl 1 rfl) ?_
            refine va_get (D := (dC, dI)) (ci := 9) (v := .ref a0) (C := RX9) (T := TX9) (N := 17) hx hb hts inc_X9_write_9 hown hG.1 hP 0 rfl rfl 1 (by decide) (hts (.fieldLink RX9 13 "MappingDeskModel" "rows" "[I") (by decide +kernel)) (fun _ h9 => h9) rfl dX9_write_130 ?_
            refine lv_iload hx hb dX9_write_133 (lv_at hl 10 rfl) ?_
            refine lv_iconst (v := 1) hx hb dX9_write_135 (by decide) ?_
            refine lv_iadd hx hb dX9_write_136 ?_
            have b_493 : vp_in (((1800 * x) + (6 * k)) + 1) 3600 := by
              have hq9 := hlin k (by omega) (by omega)
              have q_494 := i_le c_91
              have k_495 : (0 : Int32).toInt = 0 := by decide
              have q_496 := i_eq c_92
              try have hq7 := hct x.toNatClampNeg (cl_lt (by omega) (by omega))
              have k_497 : (1800 : Int32).toInt = 1800 := by decide
              have t_498 : ((1800 * x)).toInt = 1800 * (x).toInt := by
                have z := ti_mul (a := 1800) (b := x) (by rw [show (1800 : Int32).toInt = 1800 from by decide]; omega) (by rw [show (1800 : Int32).toInt = 1800 from by decide]; omega)
                rw [z, show (1800 : Int32).toInt = 1800 from by decide]
              have k_499 : (6 : Int32).toInt = 6 := by decide
              have t_500 : ((6 * k)).toInt = 6 * (k).toInt := by
                have z := ti_mul (a := 6) (b := k) (by rw [show (6 : Int32).toInt = 6 from by decide]; omega) (by rw [show (6 : Int32).toInt = 6 from by decide]; omega)
                rw [z, show (6 : Int32).toInt = 6 from by decide]
              have t_501 := ti_add (a := (1800 * x)) (b := (6 * k)) (by omega) (by omega)
              have k_502 : (1 : Int32).toInt = 1 := by decide
              have t_503 := ti_add (a := ((1800 * x) + (6 * k))) (b := 1) (by omega) (by omega)
              refine vin ?_ ?_
              all_goals (try generalize Int32.toInt (rw ((1800 * x) + (6 * k)).toNatClampNeg) = z0 at *; try generalize Int32.toInt (((1800 * x) + (6 * k)) + 1) = z1 at *; try generalize Int32.toInt ((1800 * x) + (6 * k)) = z2 at *; try generalize Int32.toInt (ct x.toNatClampNeg) = z3 at *; try generalize Int32.toInt (1800 * x) = z4 at *; try generalize Int32.toInt r_470.2.1 = z5 at *; try generalize Int32.toInt r_492.2.1 = z6 at *; try generalize Int32.toInt (6 * k) = z7 at *; try generalize Int32.toInt (1800 : Int32) = z8 at *; try generalize Int32.toInt wlz = z9 at *; try generalize Int32.toInt fi = z10 at *; try generalize Int32.toInt li = z11 at *; try generalize Int32.toInt (0 : Int32) = z12 at *; try generalize Int32.toInt (1 : Int32) = z13 at *; try generalize Int32.toInt (6 : Int32) = z14 at *; try generalize Int32.toInt k = z15 at *; try generalize Int32.toInt x = z16 at *; omega)
            refine va_iald hx hb hG.1 hP 1 2 rfl rfl b_493 dX9_write_137 ?_
            refine lv_istore_n (lv' := [(3, .int (rw (((1800 * x) + (6 * k)) + 1).toNatClampNeg)), (8, .int 0), (0, .ref h0), (1, .int x), (2, .int li), (4, .int so), (5, .int sl), (6, .int sc), (7, .int nm), (9, .int k), (10, .int ((1800 * x) + (6 * k)))]) hx hb dX9_write_138 rfl hl (by decide) rfl (fun ls hl => ?_)
            refine lv_aload_n hx hb dX9_write_139 rfl (lv_at hl 2 rfl) ?_
            refine va_get (D := (dC, dI)) (ci := 9) (v := .ref a0) (C := RX9) (T := TX9) (N := 17) hx hb hts inc_X9_write_9 hown hG.1 hP 0 rfl rfl 1 (by decide) (hts (.fieldLink RX9 13 "MappingDeskModel" "rows" "[I") (by decide +kernel)) (fun _ h9 => h9) rfl dX9_write_140 ?_
            refine lv_iload hx hb dX9_write_143 (lv_at hl 10 rfl) ?_
            refine lv_iconst (v := 2) hx hb dX9_write_145 (by decide) ?_
            refine lv_iadd hx hb dX9_write_146 ?_
            have b_506 : vp_in (((1800 * x) + (6 * k)) + 2) 3600 := by
              have hq9 := hlin k (by omega) (by omega)
              have q_507 := i_le c_91
              have k_508 : (0 : Int32).toInt = 0 := by decide
              have q_509 := i_eq c_92
              try have hq7 := hct x.toNatClampNeg (cl_lt (by omega) (by omega))
              have k_510 : (1800 : Int32).toInt = 1800 := by decide
              have t_511 : ((1800 * x)).toInt = 1800 * (x).toInt := by
                have z := ti_mul (a := 1800) (b := x) (by rw [show (1800 : Int32).toInt = 1800 from by decide]; omega) (by rw [show (1800 : Int32).toInt = 1800 from by decide]; omega)
                rw [z, show (1800 : Int32).toInt = 1800 from by decide]
              have k_512 : (6 : Int32).toInt = 6 := by decide
              have t_513 : ((6 * k)).toInt = 6 * (k).toInt := by
                have z := ti_mul (a := 6) (b := k) (by rw [show (6 : Int32).toInt = 6 from by decide]; omega) (by rw [show (6 : Int32).toInt = 6 from by decide]; omega)
                rw [z, show (6 : Int32).toInt = 6 from by decide]
              have t_514 := ti_add (a := (1800 * x)) (b := (6 * k)) (by omega) (by omega)
              have k_515 : (2 : Int32).toInt = 2 := by decide
              have t_516 := ti_add (a := ((1800 * x) + (6 * k))) (b := 2) (by omega) (by omega)
              refine vin ?_ ?_
              all_goals (try generalize Int32.toInt (rw ((1800 * x) + (6 * k)).toNatClampNeg) = z0 at *; try generalize Int32.toInt (((1800 * x) + (6 * k)) + 2) = z1 at *; try generalize Int32.toInt ((1800 * x) + (6 * k)) = z2 at *; try generalize Int32.toInt (ct x.toNatClampNeg) = z3 at *; try generalize Int32.toInt (1800 * x) = z4 at *; try generalize Int32.toInt r_470.2.1 = z5 at *; try generalize Int32.toInt r_492.2.1 = z6 at *; try generalize Int32.toInt (6 * k) = z7 at *; try generalize Int32.toInt (1800 : Int32) = z8 at *; try generalize Int32.toInt wlz = z9 at *; try generalize Int32.toInt fi = z10 at *; try generalize Int32.toInt li = z11 at *; try generalize Int32.toInt (0 : Int32) = z12 at *; try generalize Int32.toInt (2 : Int32) = z13 at *; try generalize Int32.toInt (6 : Int32) = z14 at *; try generalize Int32.toInt k = z15 at *; try generalize Int32.toInt x = z16 at *; omega)
            refine va_iald hx hb hG.1 hP 1 2 rfl rfl b_506 dX9_write_147 ?_
            refine lv_if_ge (tgt := 154) hx hb dX9_write_148 (by decide) (fun c_519 => ?_) (fun c_519 => ?_)
            · rw [if_pos c_519] at hR
              refine lv_aload_n hx hb dX9_write_154 rfl (lv_at hl 2 rfl) ?_
              refine lv_aload_n hx hb dX9_write_155 rfl (lv_at hl 2 rfl) ?_
              refine va_get (D := (dC, dI)) (ci := 9) (v := .ref a0) (C := RX9) (T := TX9) (N := 17) hx hb hts inc_X9_write_9 hown hG.1 hP 0 rfl rfl 1 (by decide) (hts (.fieldLink RX9 13 "MappingDeskModel" "rows" "[I") (by decide +kernel)) (fun _ h9 => h9) rfl dX9_write_156 ?_
              refine lv_iload hx hb dX9_write_159 (lv_at hl 10 rfl) ?_
              refine lv_iconst (v := 2) hx hb dX9_write_161 (by decide) ?_
              refine lv_iadd hx hb dX9_write_162 ?_
              have b_520 : vp_in (((1800 * x) + (6 * k)) + 2) 3600 := by
                have hq9 := hlin k (by omega) (by omega)
                have q_521 := i_le c_91
                have k_522 : (0 : Int32).toInt = 0 := by decide
                have q_523 := i_eq c_92
                have q_524 := i_le c_519
                try have hq7 := hct x.toNatClampNeg (cl_lt (by omega) (by omega))
                have k_525 : (1800 : Int32).toInt = 1800 := by decide
                have t_526 : ((1800 * x)).toInt = 1800 * (x).toInt := by
                  have z := ti_mul (a := 1800) (b := x) (by rw [show (1800 : Int32).toInt = 1800 from by decide]; omega) (by rw [show (1800 : Int32).toInt = 1800 from by decide]; omega)
                  rw [z, show (1800 : Int32).toInt = 1800 from by decide]
                have k_527 : (6 : Int32).toInt = 6 := by decide
                have t_528 : ((6 * k)).toInt = 6 * (k).toInt := by
                  have z := ti_mul (a := 6) (b := k) (by rw [show (6 : Int32).toInt = 6 from by decide]; omega) (by rw [show (6 : Int32).toInt = 6 from by decide]; omega)
                  rw [z, show (6 : Int32).toInt = 6 from by decide]
                have t_529 := ti_add (a := (1800 * x)) (b := (6 * k)) (by omega) (by omega)
                have k_530 : (2 : Int32).toInt = 2 := by decide
                have t_531 := ti_add (a := ((1800 * x) + (6 * k))) (b := 2) (by omega) (by omega)
                refine vin ?_ ?_
                all_goals (try generalize Int32.toInt (rw (((1800 * x) + (6 * k)) + 2).toNatClampNeg) = z0 at *; try generalize Int32.toInt (rw ((1800 * x) + (6 * k)).toNatClampNeg) = z1 at *; try generalize Int32.toInt (((1800 * x) + (6 * k)) + 2) = z2 at *; try generalize Int32.toInt ((1800 * x) + (6 * k)) = z3 at *; try generalize Int32.toInt (ct x.toNatClampNeg) = z4 at *; try generalize Int32.toInt (1800 * x) = z5 at *; try generalize Int32.toInt r_470.2.1 = z6 at *; try generalize Int32.toInt r_492.2.1 = z7 at *; try generalize Int32.toInt (6 * k) = z8 at *; try generalize Int32.toInt (1800 : Int32) = z9 at *; try generalize Int32.toInt wlz = z10 at *; try generalize Int32.toInt fi = z11 at *; try generalize Int32.toInt li = z12 at *; try generalize Int32.toInt (0 : Int32) = z13 at *; try generalize Int32.toInt (2 : Int32) = z14 at *; try generalize Int32.toInt (6 : Int32) = z15 at *; try generalize Int32.toInt k = z16 at *; try generalize Int32.toInt x = z17 at *; omega)
              refine va_iald hx hb hG.1 hP 1 2 rfl rfl b_520 dX9_write_163 ?_
              refine lv_iload hx hb dX9_write_164 (lv_at hl 5 rfl) ?_
              refine lv_isub hx hb dX9_write_166 ?_
              have p_534 : 0 ≤ r_492.2.1.toInt := by
                have hq9 := hlin k (by omega) (by omega)
                have q_535 := i_le c_91
                have k_536 : (0 : Int32).toInt = 0 := by decide
                have q_537 := i_eq c_92
                have q_538 := i_le c_519
                try have hq7 := hct x.toNatClampNeg (cl_lt (by omega) (by omega))
                try generalize Int32.toInt (rw (((1800 * x) + (6 * k)) + 2).toNatClampNeg) = z0 at *
                try generalize Int32.toInt (rw ((1800 * x) + (6 * k)).toNatClampNeg) = z1 at *
                try generalize Int32.toInt (ct x.toNatClampNeg) = z2 at *
                try generalize Int32.toInt r_470.2.1 = z3 at *
                try generalize Int32.toInt r_492.2.1 = z4 at *
                try generalize Int32.toInt wlz = z5 at *
                try generalize Int32.toInt fi = z6 at *
                try generalize Int32.toInt li = z7 at *
                try generalize Int32.toInt (0 : Int32) = z8 at *
                try generalize Int32.toInt k = z9 at *
                try generalize Int32.toInt x = z10 at *
                first | omega | exact ⟨by omega, by omega⟩
              have p_539 : r_492.2.1.toInt ≤ 6000 := by
                have hq9 := hlin k (by omega) (by omega)
                have q_540 := i_le c_91
                have k_541 : (0 : Int32).toInt = 0 := by decide
                have q_542 := i_eq c_92
                have q_543 := i_le c_519
                try have hq7 := hct x.toNatClampNeg (cl_lt (by omega) (by omega))
                try generalize Int32.toInt (rw (((1800 * x) + (6 * k)) + 2).toNatClampNeg) = z0 at *
                try generalize Int32.toInt (rw ((1800 * x) + (6 * k)).toNatClampNeg) = z1 at *
                try generalize Int32.toInt (ct x.toNatClampNeg) = z2 at *
                try generalize Int32.toInt r_470.2.1 = z3 at *
                try generalize Int32.toInt r_492.2.1 = z4 at *
                try generalize Int32.toInt wlz = z5 at *
                try generalize Int32.toInt fi = z6 at *
                try generalize Int32.toInt li = z7 at *
                try generalize Int32.toInt (0 : Int32) = z8 at *
                try generalize Int32.toInt k = z9 at *
                try generalize Int32.toInt x = z10 at *
                first | omega | exact ⟨by omega, by omega⟩
              have hPc := hP.sub (ws' := [(h0, .inr (9, [.int 0, .ref a0, .ref a1, .ref a2, .int dc, .ref a3, .int tl, .ref a4, .int xl, .int fo, .int fa, .ref a5, .int mn, .ref a6, .int r_492.1, .ref a7, .int r_492.2.1])), (a7, .inl (cB, 6000, .inl r_492.2.2))]) [0, 4] rfl
              have hDc := hD.sub (ws' := [(h0, .inr (9, [.int 0, .ref a0, .ref a1, .ref a2, .int dc, .ref a3, .int tl, .ref a4, .int xl, .int fo, .int fa, .ref a5, .int mn, .ref a6, .int r_492.1, .ref a7, .int r_492.2.1])), (a7, .inl (cB, 6000, .inl r_492.2.2))]) [0, 4] (by decide) rfl
              have hFc := va_free (wc := [(h0, .inr (9, [.int 0, .ref a0, .ref a1, .ref a2, .int dc, .ref a3, .int tl, .ref a4, .int xl, .int fo, .int fa, .ref a5, .int mn, .ref a6, .int r_492.1, .ref a7, .int r_492.2.1])), (a7, .inl (cB, 6000, .inl r_492.2.2))]) hD hS hA [0, 4] rfl
              refine va_callv (va_runV (As := [.int ((rw (((1800 * x) + (6 * k)) + 2).toNatClampNeg) - so)]) (rest := []) ⟨hx, hb, hml, hown, hts⟩ (c_X9_addNumber l dC dI cB cC cI cJ H.size h0 a0 a1 a2 a3 a4 a5 a6 a7 0 dc tl xl fo fa mn r_492.1 r_492.2.1 r_492.2.2 ((rw (((1800 * x) + (6 * k)) + 2).toNatClampNeg) - so) p_534 p_539) (cwV 1 hts gX9_write_X9_addNumber rfl rfl rfl (by decide +kernel) ⟨(Nat.le_of_ble_eq_true rfl), (Nat.le_of_ble_eq_true rfl)⟩) ⟨cP_blind, va_recv hG.1 hPc (ci := 9) (q0 := 0) rfl rfl, cP_pre hPc hG hDc⟩ rfl rfl hl.1 rfl (lv_room (Nat.le_of_ble_eq_true rfl)) dX9_write_167 ⟨Nat.le_of_ble_eq_true rfl, Nat.le_of_ble_eq_true rfl⟩) hS (fun q _ h => hFc q h) hFc (fun u t H1 locs ht hvm hw hB hz1 hk1 hS => ?_)
              obtain ⟨hP1, hD1⟩ := hB
              rw [ht] at hP1
              generalize hr_544 : fX9_addNumber 0 dc tl xl fo fa mn r_492.1 r_492.2.1 r_492.2.2 ((rw (((1800 * x) + (6 * k)) + 2).toNatClampNeg) - so) = r_544 at hP1 hD1 hw
              have er_544_0 := hw
              rw [bnd_eq hr_544] at hR
              obtain ⟨hP, hD⟩ := va_join (wr := [(a0, .inl (cI, 3600, .inl rw)), (a1, .inl (cI, 2, .inl ct)), (a4, .inl (cB, 6000, .inl tx))]) (w1 := [(h0, .inr (9, [.int 0, .ref a0, .ref a1, .ref a2, .int dc, .ref a3, .int tl, .ref a4, .int xl, .int fo, .int fa, .ref a5, .int mn, .ref a6, .int r_544.1, .ref a7, .int r_544.2.1])), (a7, .inl (cB, 6000, .inl r_544.2.2))]) hP hD [0, 4] [1, 2, 3] rfl rfl (by decide) (by decide) hk1 hFc hP1 hD1
              generalize H1 = H at hP hS ⊢
              have hP := hP.sub (ws' := [(h0, .inr (9, [.int 0, .ref a0, .ref a1, .ref a2, .int dc, .ref a3, .int tl, .ref a4, .int xl, .int fo, .int fa, .ref a5, .int mn, .ref a6, .int r_544.1, .ref a7, .int r_544.2.1])), (a0, .inl (cI, 3600, .inl rw)), (a1, .inl (cI, 2, .inl ct)), (a4, .inl (cB, 6000, .inl tx)), (a7, .inl (cB, 6000, .inl r_544.2.2))]) [3, 0, 1, 2, 4] rfl
              have hD := hD.sub (ws' := [(h0, .inr (9, [.int 0, .ref a0, .ref a1, .ref a2, .int dc, .ref a3, .int tl, .ref a4, .int xl, .int fo, .int fa, .ref a5, .int mn, .ref a6, .int r_544.1, .ref a7, .int r_544.2.1])), (a0, .inl (cI, 3600, .inl rw)), (a1, .inl (cI, 2, .inl ct)), (a4, .inl (cB, 6000, .inl tx)), (a7, .inl (cB, 6000, .inl r_544.2.2))]) [3, 0, 1, 2, 4] (by decide) rfl
              refine lv_aload_n hx hb dX9_write_170 rfl (lv_at hl 2 rfl) ?_
              refine lv_aload_n hx hb dX9_write_171 rfl (lv_at hl 2 rfl) ?_
              refine va_get (D := (dC, dI)) (ci := 9) (v := .ref a0) (C := RX9) (T := TX9) (N := 17) hx hb hts inc_X9_write_9 hown hG.1 hP 0 rfl rfl 1 (by decide) (hts (.fieldLink RX9 13 "MappingDeskModel" "rows" "[I") (by decide +kernel)) (fun _ h9 => h9) rfl dX9_write_172 ?_
              refine lv_iload hx hb dX9_write_175 (lv_at hl 10 rfl) ?_
              refine lv_iconst (v := 3) hx hb dX9_write_177 (by decide) ?_
              refine lv_iadd hx hb dX9_write_178 ?_
              have b_545 : vp_in (((1800 * x) + (6 * k)) + 3) 3600 := by
                have hq9 := hlin k (by omega) (by omega)
                have q_546 := i_le c_91
                have k_547 : (0 : Int32).toInt = 0 := by decide
                have q_548 := i_eq c_92
                have q_549 := i_le c_519
                try have hq7 := hct x.toNatClampNeg (cl_lt (by omega) (by omega))
                have k_550 : (1800 : Int32).toInt = 1800 := by decide
                have t_551 : ((1800 * x)).toInt = 1800 * (x).toInt := by
                  have z := ti_mul (a := 1800) (b := x) (by rw [show (1800 : Int32).toInt = 1800 from by decide]; omega) (by rw [show (1800 : Int32).toInt = 1800 from by decide]; omega)
                  rw [z, show (1800 : Int32).toInt = 1800 from by decide]
                have k_552 : (6 : Int32).toInt = 6 := by decide
                have t_553 : ((6 * k)).toInt = 6 * (k).toInt := by
                  have z := ti_mul (a := 6) (b := k) (by rw [show (6 : Int32).toInt = 6 from by decide]; omega) (by rw [show (6 : Int32).toInt = 6 from by decide]; omega)
                  rw [z, show (6 : Int32).toInt = 6 from by decide]
                have t_554 := ti_add (a := (1800 * x)) (b := (6 * k)) (by omega) (by omega)
                have k_555 : (3 : Int32).toInt = 3 := by decide
                have t_556 := ti_add (a := ((1800 * x) + (6 * k))) (b := 3) (by omega) (by omega)
                refine vin ?_ ?_
                all_goals (try generalize Int32.toInt (rw (((1800 * x) + (6 * k)) + 2).toNatClampNeg) = z0 at *; try generalize Int32.toInt (rw ((1800 * x) + (6 * k)).toNatClampNeg) = z1 at *; try generalize Int32.toInt (((1800 * x) + (6 * k)) + 3) = z2 at *; try generalize Int32.toInt ((1800 * x) + (6 * k)) = z3 at *; try generalize Int32.toInt (ct x.toNatClampNeg) = z4 at *; try generalize Int32.toInt (1800 * x) = z5 at *; try generalize Int32.toInt r_470.2.1 = z6 at *; try generalize Int32.toInt r_492.2.1 = z7 at *; try generalize Int32.toInt r_544.2.1 = z8 at *; try generalize Int32.toInt (6 * k) = z9 at *; try generalize Int32.toInt (1800 : Int32) = z10 at *; try generalize Int32.toInt wlz = z11 at *; try generalize Int32.toInt fi = z12 at *; try generalize Int32.toInt li = z13 at *; try generalize Int32.toInt (0 : Int32) = z14 at *; try generalize Int32.toInt (3 : Int32) = z15 at *; try generalize Int32.toInt (6 : Int32) = z16 at *; try generalize Int32.toInt k = z17 at *; try generalize Int32.toInt x = z18 at *; omega)
              refine va_iald hx hb hG.1 hP 1 2 rfl rfl b_545 dX9_write_179 ?_
              refine lv_iload hx hb dX9_write_180 (lv_at hl 6 rfl) ?_
              refine lv_isub hx hb dX9_write_182 ?_
              have p_559 : 0 ≤ r_544.2.1.toInt := by
                have hq9 := hlin k (by omega) (by omega)
                have q_560 := i_le c_91
                have k_561 : (0 : Int32).toInt = 0 := by decide
                have q_562 := i_eq c_92
                have q_563 := i_le c_519
                try have hq7 := hct x.toNatClampNeg (cl_lt (by omega) (by omega))
                try generalize Int32.toInt (rw (((1800 * x) + (6 * k)) + 2).toNatClampNeg) = z0 at *
                try generalize Int32.toInt (rw ((1800 * x) + (6 * k)).toNatClampNeg) = z1 at *
                try generalize Int32.toInt (ct x.toNatClampNeg) = z2 at *
                try generalize Int32.toInt r_470.2.1 = z3 at *
                try generalize Int32.toInt r_492.2.1 = z4 at *
                try generalize Int32.toInt r_544.2.1 = z5 at *
                try generalize Int32.toInt wlz = z6 at *
                try generalize Int32.toInt fi = z7 at *
                try generalize Int32.toInt li = z8 at *
                try generalize Int32.toInt (0 : Int32) = z9 at *
                try generalize Int32.toInt k = z10 at *
                try generalize Int32.toInt x = z11 at *
                first | omega | exact ⟨by omega, by omega⟩
              have p_564 : r_544.2.1.toInt ≤ 6000 := by
                have hq9 := hlin k (by omega) (by omega)
                have q_565 := i_le c_91
                have k_566 : (0 : Int32).toInt = 0 := by decide
                have q_567 := i_eq c_92
                have q_568 := i_le c_519
                try have hq7 := hct x.toNatClampNeg (cl_lt (by omega) (by omega))
                try generalize Int32.toInt (rw (((1800 * x) + (6 * k)) + 2).toNatClampNeg) = z0 at *
                try generalize Int32.toInt (rw ((1800 * x) + (6 * k)).toNatClampNeg) = z1 at *
                try generalize Int32.toInt (ct x.toNatClampNeg) = z2 at *
                try generalize Int32.toInt r_470.2.1 = z3 at *
                try generalize Int32.toInt r_492.2.1 = z4 at *
                try generalize Int32.toInt r_544.2.1 = z5 at *
                try generalize Int32.toInt wlz = z6 at *
                try generalize Int32.toInt fi = z7 at *
                try generalize Int32.toInt li = z8 at *
                try generalize Int32.toInt (0 : Int32) = z9 at *
                try generalize Int32.toInt k = z10 at *
                try generalize Int32.toInt x = z11 at *
                first | omega | exact ⟨by omega, by omega⟩
              have hPc := hP.sub (ws' := [(h0, .inr (9, [.int 0, .ref a0, .ref a1, .ref a2, .int dc, .ref a3, .int tl, .ref a4, .int xl, .int fo, .int fa, .ref a5, .int mn, .ref a6, .int r_544.1, .ref a7, .int r_544.2.1])), (a7, .inl (cB, 6000, .inl r_544.2.2))]) [0, 4] rfl
              have hDc := hD.sub (ws' := [(h0, .inr (9, [.int 0, .ref a0, .ref a1, .ref a2, .int dc, .ref a3, .int tl, .ref a4, .int xl, .int fo, .int fa, .ref a5, .int mn, .ref a6, .int r_544.1, .ref a7, .int r_544.2.1])), (a7, .inl (cB, 6000, .inl r_544.2.2))]) [0, 4] (by decide) rfl
              have hFc := va_free (wc := [(h0, .inr (9, [.int 0, .ref a0, .ref a1, .ref a2, .int dc, .ref a3, .int tl, .ref a4, .int xl, .int fo, .int fa, .ref a5, .int mn, .ref a6, .int r_544.1, .ref a7, .int r_544.2.1])), (a7, .inl (cB, 6000, .inl r_544.2.2))]) hD hS hA [0, 4] rfl
              refine va_callv (va_runV (As := [.int ((rw (((1800 * x) + (6 * k)) + 3).toNatClampNeg) - sl)]) (rest := []) ⟨hx, hb, hml, hown, hts⟩ (c_X9_addNumber l dC dI cB cC cI cJ H.size h0 a0 a1 a2 a3 a4 a5 a6 a7 0 dc tl xl fo fa mn r_544.1 r_544.2.1 r_544.2.2 ((rw (((1800 * x) + (6 * k)) + 3).toNatClampNeg) - sl) p_559 p_564) (cwV 1 hts gX9_write_X9_addNumber rfl rfl rfl (by decide +kernel) ⟨(Nat.le_of_ble_eq_true rfl), (Nat.le_of_ble_eq_true rfl)⟩) ⟨cP_blind, va_recv hG.1 hPc (ci := 9) (q0 := 0) rfl rfl, cP_pre hPc hG hDc⟩ rfl rfl hl.1 rfl (lv_room (Nat.le_of_ble_eq_true rfl)) dX9_write_183 ⟨Nat.le_of_ble_eq_true rfl, Nat.le_of_ble_eq_true rfl⟩) hS (fun q _ h => hFc q h) hFc (fun u t H1 locs ht hvm hw hB hz1 hk1 hS => ?_)
              obtain ⟨hP1, hD1⟩ := hB
              rw [ht] at hP1
              generalize hr_569 : fX9_addNumber 0 dc tl xl fo fa mn r_544.1 r_544.2.1 r_544.2.2 ((rw (((1800 * x) + (6 * k)) + 3).toNatClampNeg) - sl) = r_569 at hP1 hD1 hw
              have er_569_0 := hw
              rw [bnd_eq hr_569] at hR
              obtain ⟨hP, hD⟩ := va_join (wr := [(a0, .inl (cI, 3600, .inl rw)), (a1, .inl (cI, 2, .inl ct)), (a4, .inl (cB, 6000, .inl tx))]) (w1 := [(h0, .inr (9, [.int 0, .ref a0, .ref a1, .ref a2, .int dc, .ref a3, .int tl, .ref a4, .int xl, .int fo, .int fa, .ref a5, .int mn, .ref a6, .int r_569.1, .ref a7, .int r_569.2.1])), (a7, .inl (cB, 6000, .inl r_569.2.2))]) hP hD [0, 4] [1, 2, 3] rfl rfl (by decide) (by decide) hk1 hFc hP1 hD1
              generalize H1 = H at hP hS ⊢
              have hP := hP.sub (ws' := [(h0, .inr (9, [.int 0, .ref a0, .ref a1, .ref a2, .int dc, .ref a3, .int tl, .ref a4, .int xl, .int fo, .int fa, .ref a5, .int mn, .ref a6, .int r_569.1, .ref a7, .int r_569.2.1])), (a0, .inl (cI, 3600, .inl rw)), (a1, .inl (cI, 2, .inl ct)), (a4, .inl (cB, 6000, .inl tx)), (a7, .inl (cB, 6000, .inl r_569.2.2))]) [3, 0, 1, 2, 4] rfl
              have hD := hD.sub (ws' := [(h0, .inr (9, [.int 0, .ref a0, .ref a1, .ref a2, .int dc, .ref a3, .int tl, .ref a4, .int xl, .int fo, .int fa, .ref a5, .int mn, .ref a6, .int r_569.1, .ref a7, .int r_569.2.1])), (a0, .inl (cI, 3600, .inl rw)), (a1, .inl (cI, 2, .inl ct)), (a4, .inl (cB, 6000, .inl tx)), (a7, .inl (cB, 6000, .inl r_569.2.2))]) [3, 0, 1, 2, 4] (by decide) rfl
              refine lv_aload_n hx hb dX9_write_186 rfl (lv_at hl 2 rfl) ?_
              refine lv_aload_n hx hb dX9_write_187 rfl (lv_at hl 2 rfl) ?_
              refine va_get (D := (dC, dI)) (ci := 9) (v := .ref a0) (C := RX9) (T := TX9) (N := 17) hx hb hts inc_X9_write_9 hown hG.1 hP 0 rfl rfl 1 (by decide) (hts (.fieldLink RX9 13 "MappingDeskModel" "rows" "[I") (by decide +kernel)) (fun _ h9 => h9) rfl dX9_write_188 ?_
              refine lv_iload hx hb dX9_write_191 (lv_at hl 10 rfl) ?_
              refine lv_iconst (v := 4) hx hb dX9_write_193 (by decide) ?_
              refine lv_iadd hx hb dX9_write_194 ?_
              have b_570 : vp_in (((1800 * x) + (6 * k)) + 4) 3600 := by
                have hq9 := hlin k (by omega) (by omega)
                have q_571 := i_le c_91
                have k_572 : (0 : Int32).toInt = 0 := by decide
                have q_573 := i_eq c_92
                have q_574 := i_le c_519
                try have hq7 := hct x.toNatClampNeg (cl_lt (by omega) (by omega))
                have k_575 : (1800 : Int32).toInt = 1800 := by decide
                have t_576 : ((1800 * x)).toInt = 1800 * (x).toInt := by
                  have z := ti_mul (a := 1800) (b := x) (by rw [show (1800 : Int32).toInt = 1800 from by decide]; omega) (by rw [show (1800 : Int32).toInt = 1800 from by decide]; omega)
                  rw [z, show (1800 : Int32).toInt = 1800 from by decide]
                have k_577 : (6 : Int32).toInt = 6 := by decide
                have t_578 : ((6 * k)).toInt = 6 * (k).toInt := by
                  have z := ti_mul (a := 6) (b := k) (by rw [show (6 : Int32).toInt = 6 from by decide]; omega) (by rw [show (6 : Int32).toInt = 6 from by decide]; omega)
                  rw [z, show (6 : Int32).toInt = 6 from by decide]
                have t_579 := ti_add (a := (1800 * x)) (b := (6 * k)) (by omega) (by omega)
                have k_580 : (4 : Int32).toInt = 4 := by decide
                have t_581 := ti_add (a := ((1800 * x) + (6 * k))) (b := 4) (by omega) (by omega)
                refine vin ?_ ?_
                all_goals (try generalize Int32.toInt (rw (((1800 * x) + (6 * k)) + 2).toNatClampNeg) = z0 at *; try generalize Int32.toInt (rw ((1800 * x) + (6 * k)).toNatClampNeg) = z1 at *; try generalize Int32.toInt (((1800 * x) + (6 * k)) + 4) = z2 at *; try generalize Int32.toInt ((1800 * x) + (6 * k)) = z3 at *; try generalize Int32.toInt (ct x.toNatClampNeg) = z4 at *; try generalize Int32.toInt (1800 * x) = z5 at *; try generalize Int32.toInt r_470.2.1 = z6 at *; try generalize Int32.toInt r_492.2.1 = z7 at *; try generalize Int32.toInt r_544.2.1 = z8 at *; try generalize Int32.toInt r_569.2.1 = z9 at *; try generalize Int32.toInt (6 * k) = z10 at *; try generalize Int32.toInt (1800 : Int32) = z11 at *; try generalize Int32.toInt wlz = z12 at *; try generalize Int32.toInt fi = z13 at *; try generalize Int32.toInt li = z14 at *; try generalize Int32.toInt (0 : Int32) = z15 at *; try generalize Int32.toInt (4 : Int32) = z16 at *; try generalize Int32.toInt (6 : Int32) = z17 at *; try generalize Int32.toInt k = z18 at *; try generalize Int32.toInt x = z19 at *; omega)
              refine va_iald hx hb hG.1 hP 1 2 rfl rfl b_570 dX9_write_195 ?_
              refine lv_iload hx hb dX9_write_196 (lv_at hl 7 rfl) ?_
              refine lv_isub hx hb dX9_write_198 ?_
              have p_584 : 0 ≤ r_569.2.1.toInt := by
                have hq9 := hlin k (by omega) (by omega)
                have q_585 := i_le c_91
                have k_586 : (0 : Int32).toInt = 0 := by decide
                have q_587 := i_eq c_92
                have q_588 := i_le c_519
                try have hq7 := hct x.toNatClampNeg (cl_lt (by omega) (by omega))
                try generalize Int32.toInt (rw (((1800 * x) + (6 * k)) + 2).toNatClampNeg) = z0 at *
                try generalize Int32.toInt (rw ((1800 * x) + (6 * k)).toNatClampNeg) = z1 at *
                try generalize Int32.toInt (ct x.toNatClampNeg) = z2 at *
                try generalize Int32.toInt r_470.2.1 = z3 at *
                try generalize Int32.toInt r_492.2.1 = z4 at *
                try generalize Int32.toInt r_544.2.1 = z5 at *
                try generalize Int32.toInt r_569.2.1 = z6 at *
                try generalize Int32.toInt wlz = z7 at *
                try generalize Int32.toInt fi = z8 at *
                try generalize Int32.toInt li = z9 at *
                try generalize Int32.toInt (0 : Int32) = z10 at *
                try generalize Int32.toInt k = z11 at *
                try generalize Int32.toInt x = z12 at *
                first | omega | exact ⟨by omega, by omega⟩
              have p_589 : r_569.2.1.toInt ≤ 6000 := by
                have hq9 := hlin k (by omega) (by omega)
                have q_590 := i_le c_91
                have k_591 : (0 : Int32).toInt = 0 := by decide
                have q_592 := i_eq c_92
                have q_593 := i_le c_519
                try have hq7 := hct x.toNatClampNeg (cl_lt (by omega) (by omega))
                try generalize Int32.toInt (rw (((1800 * x) + (6 * k)) + 2).toNatClampNeg) = z0 at *
                try generalize Int32.toInt (rw ((1800 * x) + (6 * k)).toNatClampNeg) = z1 at *
                try generalize Int32.toInt (ct x.toNatClampNeg) = z2 at *
                try generalize Int32.toInt r_470.2.1 = z3 at *
                try generalize Int32.toInt r_492.2.1 = z4 at *
                try generalize Int32.toInt r_544.2.1 = z5 at *
                try generalize Int32.toInt r_569.2.1 = z6 at *
                try generalize Int32.toInt wlz = z7 at *
                try generalize Int32.toInt fi = z8 at *
                try generalize Int32.toInt li = z9 at *
                try generalize Int32.toInt (0 : Int32) = z10 at *
                try generalize Int32.toInt k = z11 at *
                try generalize Int32.toInt x = z12 at *
                first | omega | exact ⟨by omega, by omega⟩
              have hPc := hP.sub (ws' := [(h0, .inr (9, [.int 0, .ref a0, .ref a1, .ref a2, .int dc, .ref a3, .int tl, .ref a4, .int xl, .int fo, .int fa, .ref a5, .int mn, .ref a6, .int r_569.1, .ref a7, .int r_569.2.1])), (a7, .inl (cB, 6000, .inl r_569.2.2))]) [0, 4] rfl
              have hDc := hD.sub (ws' := [(h0, .inr (9, [.int 0, .ref a0, .ref a1, .ref a2, .int dc, .ref a3, .int tl, .ref a4, .int xl, .int fo, .int fa, .ref a5, .int mn, .ref a6, .int r_569.1, .ref a7, .int r_569.2.1])), (a7, .inl (cB, 6000, .inl r_569.2.2))]) [0, 4] (by decide) rfl
              have hFc := va_free (wc := [(h0, .inr (9, [.int 0, .ref a0, .ref a1, .ref a2, .int dc, .ref a3, .int tl, .ref a4, .int xl, .int fo, .int fa, .ref a5, .int mn, .ref a6, .int r_569.1, .ref a7, .int r_569.2.1])), (a7, .inl (cB, 6000, .inl r_569.2.2))]) hD hS hA [0, 4] rfl
              refine va_callv (va_runV (As := [.int ((rw (((1800 * x) + (6 * k)) + 4).toNatClampNeg) - sc)]) (rest := []) ⟨hx, hb, hml, hown, hts⟩ (c_X9_addNumber l dC dI cB cC cI cJ H.size h0 a0 a1 a2 a3 a4 a5 a6 a7 0 dc tl xl fo fa mn r_569.1 r_569.2.1 r_569.2.2 ((rw (((1800 * x) + (6 * k)) + 4).toNatClampNeg) - sc) p_584 p_589) (cwV 1 hts gX9_write_X9_addNumber rfl rfl rfl (by decide +kernel) ⟨(Nat.le_of_ble_eq_true rfl), (Nat.le_of_ble_eq_true rfl)⟩) ⟨cP_blind, va_recv hG.1 hPc (ci := 9) (q0 := 0) rfl rfl, cP_pre hPc hG hDc⟩ rfl rfl hl.1 rfl (lv_room (Nat.le_of_ble_eq_true rfl)) dX9_write_199 ⟨Nat.le_of_ble_eq_true rfl, Nat.le_of_ble_eq_true rfl⟩) hS (fun q _ h => hFc q h) hFc (fun u t H1 locs ht hvm hw hB hz1 hk1 hS => ?_)
              obtain ⟨hP1, hD1⟩ := hB
              rw [ht] at hP1
              generalize hr_594 : fX9_addNumber 0 dc tl xl fo fa mn r_569.1 r_569.2.1 r_569.2.2 ((rw (((1800 * x) + (6 * k)) + 4).toNatClampNeg) - sc) = r_594 at hP1 hD1 hw
              have er_594_0 := hw
              rw [bnd_eq hr_594] at hR
              obtain ⟨hP, hD⟩ := va_join (wr := [(a0, .inl (cI, 3600, .inl rw)), (a1, .inl (cI, 2, .inl ct)), (a4, .inl (cB, 6000, .inl tx))]) (w1 := [(h0, .inr (9, [.int 0, .ref a0, .ref a1, .ref a2, .int dc, .ref a3, .int tl, .ref a4, .int xl, .int fo, .int fa, .ref a5, .int mn, .ref a6, .int r_594.1, .ref a7, .int r_594.2.1])), (a7, .inl (cB, 6000, .inl r_594.2.2))]) hP hD [0, 4] [1, 2, 3] rfl rfl (by decide) (by decide) hk1 hFc hP1 hD1
              generalize H1 = H at hP hS ⊢
              have hP := hP.sub (ws' := [(h0, .inr (9, [.int 0, .ref a0, .ref a1, .ref a2, .int dc, .ref a3, .int tl, .ref a4, .int xl, .int fo, .int fa, .ref a5, .int mn, .ref a6, .int r_594.1, .ref a7, .int r_594.2.1])), (a0, .inl (cI, 3600, .inl rw)), (a1, .inl (cI, 2, .inl ct)), (a4, .inl (cB, 6000, .inl tx)), (a7, .inl (cB, 6000, .inl r_594.2.2))]) [3, 0, 1, 2, 4] rfl
              have hD := hD.sub (ws' := [(h0, .inr (9, [.int 0, .ref a0, .ref a1, .ref a2, .int dc, .ref a3, .int tl, .ref a4, .int xl, .int fo, .int fa, .ref a5, .int mn, .ref a6, .int r_594.1, .ref a7, .int r_594.2.1])), (a0, .inl (cI, 3600, .inl rw)), (a1, .inl (cI, 2, .inl ct)), (a4, .inl (cB, 6000, .inl tx)), (a7, .inl (cB, 6000, .inl r_594.2.2))]) [3, 0, 1, 2, 4] (by decide) rfl
              refine lv_aload_n hx hb dX9_write_202 rfl (lv_at hl 2 rfl) ?_
              refine va_get (D := (dC, dI)) (ci := 9) (v := .ref a0) (C := RX9) (T := TX9) (N := 17) hx hb hts inc_X9_write_9 hown hG.1 hP 0 rfl rfl 1 (by decide) (hts (.fieldLink RX9 13 "MappingDeskModel" "rows" "[I") (by decide +kernel)) (fun _ h9 => h9) rfl dX9_write_203 ?_
              refine lv_iload hx hb dX9_write_206 (lv_at hl 10 rfl) ?_
              refine lv_iconst (v := 2) hx hb dX9_write_208 (by decide) ?_
              refine lv_iadd hx hb dX9_write_209 ?_
              have b_595 : vp_in (((1800 * x) + (6 * k)) + 2) 3600 := by
                have hq9 := hlin k (by omega) (by omega)
                have q_596 := i_le c_91
                have k_597 : (0 : Int32).toInt = 0 := by decide
                have q_598 := i_eq c_92
                have q_599 := i_le c_519
                try have hq7 := hct x.toNatClampNeg (cl_lt (by omega) (by omega))
                have k_600 : (1800 : Int32).toInt = 1800 := by decide
                have t_601 : ((1800 * x)).toInt = 1800 * (x).toInt := by
                  have z := ti_mul (a := 1800) (b := x) (by rw [show (1800 : Int32).toInt = 1800 from by decide]; omega) (by rw [show (1800 : Int32).toInt = 1800 from by decide]; omega)
                  rw [z, show (1800 : Int32).toInt = 1800 from by decide]
                have k_602 : (6 : Int32).toInt = 6 := by decide
                have t_603 : ((6 * k)).toInt = 6 * (k).toInt := by
                  have z := ti_mul (a := 6) (b := k) (by rw [show (6 : Int32).toInt = 6 from by decide]; omega) (by rw [show (6 : Int32).toInt = 6 from by decide]; omega)
                  rw [z, show (6 : Int32).toInt = 6 from by decide]
                have t_604 := ti_add (a := (1800 * x)) (b := (6 * k)) (by omega) (by omega)
                have k_605 : (2 : Int32).toInt = 2 := by decide
                have t_606 := ti_add (a := ((1800 * x) + (6 * k))) (b := 2) (by omega) (by omega)
                refine vin ?_ ?_
                all_goals (try generalize Int32.toInt (rw (((1800 * x) + (6 * k)) + 2).toNatClampNeg) = z0 at *; try generalize Int32.toInt (rw ((1800 * x) + (6 * k)).toNatClampNeg) = z1 at *; try generalize Int32.toInt (((1800 * x) + (6 * k)) + 2) = z2 at *; try generalize Int32.toInt ((1800 * x) + (6 * k)) = z3 at *; try generalize Int32.toInt (ct x.toNatClampNeg) = z4 at *; try generalize Int32.toInt (1800 * x) = z5 at *; try generalize Int32.toInt r_470.2.1 = z6 at *; try generalize Int32.toInt r_492.2.1 = z7 at *; try generalize Int32.toInt r_544.2.1 = z8 at *; try generalize Int32.toInt r_569.2.1 = z9 at *; try generalize Int32.toInt r_594.2.1 = z10 at *; try generalize Int32.toInt (6 * k) = z11 at *; try generalize Int32.toInt (1800 : Int32) = z12 at *; try generalize Int32.toInt wlz = z13 at *; try generalize Int32.toInt fi = z14 at *; try generalize Int32.toInt li = z15 at *; try generalize Int32.toInt (0 : Int32) = z16 at *; try generalize Int32.toInt (2 : Int32) = z17 at *; try generalize Int32.toInt (6 : Int32) = z18 at *; try generalize Int32.toInt k = z19 at *; try generalize Int32.toInt x = z20 at *; omega)
              refine va_iald hx hb hG.1 hP 1 2 rfl rfl b_595 dX9_write_210 ?_
              refine lv_istore (lv' := [(4, .int (rw (((1800 * x) + (6 * k)) + 2).toNatClampNeg)), (3, .int (rw (((1800 * x) + (6 * k)) + 1).toNatClampNeg)), (8, .int 0), (0, .ref h0), (1, .int x), (2, .int li), (5, .int sl), (6, .int sc), (7, .int nm), (9, .int k), (10, .int ((1800 * x) + (6 * k)))]) hx hb dX9_write_211 hl (by decide) rfl (fun ls hl => ?_)
              refine lv_aload_n hx hb dX9_write_213 rfl (lv_at hl 3 rfl) ?_
              refine va_get (D := (dC, dI)) (ci := 9) (v := .ref a0) (C := RX9) (T := TX9) (N := 17) hx hb hts inc_X9_write_9 hown hG.1 hP 0 rfl rfl 1 (by decide) (hts (.fieldLink RX9 13 "MappingDeskModel" "rows" "[I") (by decide +kernel)) (fun _ h9 => h9) rfl dX9_write_214 ?_
              refine lv_iload hx hb dX9_write_217 (lv_at hl 10 rfl) ?_
              refine lv_iconst (v := 3) hx hb dX9_write_219 (by decide) ?_
              refine lv_iadd hx hb dX9_write_220 ?_
              have b_609 : vp_in (((1800 * x) + (6 * k)) + 3) 3600 := by
                have hq9 := hlin k (by omega) (by omega)
                have q_610 := i_le c_91
                have k_611 : (0 : Int32).toInt = 0 := by decide
                have q_612 := i_eq c_92
                have q_613 := i_le c_519
                try have hq7 := hct x.toNatClampNeg (cl_lt (by omega) (by omega))
                have k_614 : (1800 : Int32).toInt = 1800 := by decide
                have t_615 : ((1800 * x)).toInt = 1800 * (x).toInt := by
                  have z := ti_mul (a := 1800) (b := x) (by rw [show (1800 : Int32).toInt = 1800 from by decide]; omega) (by rw [show (1800 : Int32).toInt = 1800 from by decide]; omega)
                  rw [z, show (1800 : Int32).toInt = 1800 from by decide]
                have k_616 : (6 : Int32).toInt = 6 := by decide
                have t_617 : ((6 * k)).toInt = 6 * (k).toInt := by
                  have z := ti_mul (a := 6) (b := k) (by rw [show (6 : Int32).toInt = 6 from by decide]; omega) (by rw [show (6 : Int32).toInt = 6 from by decide]; omega)
                  rw [z, show (6 : Int32).toInt = 6 from by decide]
                have t_618 := ti_add (a := (1800 * x)) (b := (6 * k)) (by omega) (by omega)
                have k_619 : (3 : Int32).toInt = 3 := by decide
                have t_620 := ti_add (a := ((1800 * x) + (6 * k))) (b := 3) (by omega) (by omega)
                refine vin ?_ ?_
                all_goals (try generalize Int32.toInt (rw (((1800 * x) + (6 * k)) + 2).toNatClampNeg) = z0 at *; try generalize Int32.toInt (rw ((1800 * x) + (6 * k)).toNatClampNeg) = z1 at *; try generalize Int32.toInt (((1800 * x) + (6 * k)) + 3) = z2 at *; try generalize Int32.toInt ((1800 * x) + (6 * k)) = z3 at *; try generalize Int32.toInt (ct x.toNatClampNeg) = z4 at *; try generalize Int32.toInt (1800 * x) = z5 at *; try generalize Int32.toInt r_470.2.1 = z6 at *; try generalize Int32.toInt r_492.2.1 = z7 at *; try generalize Int32.toInt r_544.2.1 = z8 at *; try generalize Int32.toInt r_569.2.1 = z9 at *; try generalize Int32.toInt r_594.2.1 = z10 at *; try generalize Int32.toInt (6 * k) = z11 at *; try generalize Int32.toInt (1800 : Int32) = z12 at *; try generalize Int32.toInt wlz = z13 at *; try generalize Int32.toInt fi = z14 at *; try generalize Int32.toInt li = z15 at *; try generalize Int32.toInt (0 : Int32) = z16 at *; try generalize Int32.toInt (3 : Int32) = z17 at *; try generalize Int32.toInt (6 : Int32) = z18 at *; try generalize Int32.toInt k = z19 at *; try generalize Int32.toInt x = z20 at *; omega)
              refine va_iald hx hb hG.1 hP 1 2 rfl rfl b_609 dX9_write_221 ?_
              refine lv_istore (lv' := [(5, .int (rw (((1800 * x) + (6 * k)) + 3).toNatClampNeg)), (4, .int (rw (((1800 * x) + (6 * k)) + 2).toNatClampNeg)), (3, .int (rw (((1800 * x) + (6 * k)) + 1).toNatClampNeg)), (8, .int 0), (0, .ref h0), (1, .int x), (2, .int li), (6, .int sc), (7, .int nm), (9, .int k), (10, .int ((1800 * x) + (6 * k)))]) hx hb dX9_write_222 hl (by decide) rfl (fun ls hl => ?_)
              refine lv_aload_n hx hb dX9_write_224 rfl (lv_at hl 4 rfl) ?_
              refine va_get (D := (dC, dI)) (ci := 9) (v := .ref a0) (C := RX9) (T := TX9) (N := 17) hx hb hts inc_X9_write_9 hown hG.1 hP 0 rfl rfl 1 (by decide) (hts (.fieldLink RX9 13 "MappingDeskModel" "rows" "[I") (by decide +kernel)) (fun _ h9 => h9) rfl dX9_write_225 ?_
              refine lv_iload hx hb dX9_write_228 (lv_at hl 10 rfl) ?_
              refine lv_iconst (v := 4) hx hb dX9_write_230 (by decide) ?_
              refine lv_iadd hx hb dX9_write_231 ?_
              have b_623 : vp_in (((1800 * x) + (6 * k)) + 4) 3600 := by
                have hq9 := hlin k (by omega) (by omega)
                have q_624 := i_le c_91
                have k_625 : (0 : Int32).toInt = 0 := by decide
                have q_626 := i_eq c_92
                have q_627 := i_le c_519
                try have hq7 := hct x.toNatClampNeg (cl_lt (by omega) (by omega))
                have k_628 : (1800 : Int32).toInt = 1800 := by decide
                have t_629 : ((1800 * x)).toInt = 1800 * (x).toInt := by
                  have z := ti_mul (a := 1800) (b := x) (by rw [show (1800 : Int32).toInt = 1800 from by decide]; omega) (by rw [show (1800 : Int32).toInt = 1800 from by decide]; omega)
                  rw [z, show (1800 : Int32).toInt = 1800 from by decide]
                have k_630 : (6 : Int32).toInt = 6 := by decide
                have t_631 : ((6 * k)).toInt = 6 * (k).toInt := by
                  have z := ti_mul (a := 6) (b := k) (by rw [show (6 : Int32).toInt = 6 from by decide]; omega) (by rw [show (6 : Int32).toInt = 6 from by decide]; omega)
                  rw [z, show (6 : Int32).toInt = 6 from by decide]
                have t_632 := ti_add (a := (1800 * x)) (b := (6 * k)) (by omega) (by omega)
                have k_633 : (4 : Int32).toInt = 4 := by decide
                have t_634 := ti_add (a := ((1800 * x) + (6 * k))) (b := 4) (by omega) (by omega)
                refine vin ?_ ?_
                all_goals (try generalize Int32.toInt (rw (((1800 * x) + (6 * k)) + 2).toNatClampNeg) = z0 at *; try generalize Int32.toInt (rw ((1800 * x) + (6 * k)).toNatClampNeg) = z1 at *; try generalize Int32.toInt (((1800 * x) + (6 * k)) + 4) = z2 at *; try generalize Int32.toInt ((1800 * x) + (6 * k)) = z3 at *; try generalize Int32.toInt (ct x.toNatClampNeg) = z4 at *; try generalize Int32.toInt (1800 * x) = z5 at *; try generalize Int32.toInt r_470.2.1 = z6 at *; try generalize Int32.toInt r_492.2.1 = z7 at *; try generalize Int32.toInt r_544.2.1 = z8 at *; try generalize Int32.toInt r_569.2.1 = z9 at *; try generalize Int32.toInt r_594.2.1 = z10 at *; try generalize Int32.toInt (6 * k) = z11 at *; try generalize Int32.toInt (1800 : Int32) = z12 at *; try generalize Int32.toInt wlz = z13 at *; try generalize Int32.toInt fi = z14 at *; try generalize Int32.toInt li = z15 at *; try generalize Int32.toInt (0 : Int32) = z16 at *; try generalize Int32.toInt (4 : Int32) = z17 at *; try generalize Int32.toInt (6 : Int32) = z18 at *; try generalize Int32.toInt k = z19 at *; try generalize Int32.toInt x = z20 at *; omega)
              refine va_iald hx hb hG.1 hP 1 2 rfl rfl b_623 dX9_write_232 ?_
              refine lv_istore (lv' := [(6, .int (rw (((1800 * x) + (6 * k)) + 4).toNatClampNeg)), (5, .int (rw (((1800 * x) + (6 * k)) + 3).toNatClampNeg)), (4, .int (rw (((1800 * x) + (6 * k)) + 2).toNatClampNeg)), (3, .int (rw (((1800 * x) + (6 * k)) + 1).toNatClampNeg)), (8, .int 0), (0, .ref h0), (1, .int x), (2, .int li), (7, .int nm), (9, .int k), (10, .int ((1800 * x) + (6 * k)))]) hx hb dX9_write_233 hl (by decide) rfl (fun ls hl => ?_)
              refine lv_aload_n hx hb dX9_write_235 rfl (lv_at hl 5 rfl) ?_
              refine va_get (D := (dC, dI)) (ci := 9) (v := .ref a0) (C := RX9) (T := TX9) (N := 17) hx hb hts inc_X9_write_9 hown hG.1 hP 0 rfl rfl 1 (by decide) (hts (.fieldLink RX9 13 "MappingDeskModel" "rows" "[I") (by decide +kernel)) (fun _ h9 => h9) rfl dX9_write_236 ?_
              refine lv_iload hx hb dX9_write_239 (lv_at hl 10 rfl) ?_
              refine lv_iconst (v := 5) hx hb dX9_write_241 (by decide) ?_
              refine lv_iadd hx hb dX9_write_242 ?_
              have b_637 : vp_in (((1800 * x) + (6 * k)) + 5) 3600 := by
                have hq9 := hlin k (by omega) (by omega)
                have q_638 := i_le c_91
                have k_639 : (0 : Int32).toInt = 0 := by decide
                have q_640 := i_eq c_92
                have q_641 := i_le c_519
                try have hq7 := hct x.toNatClampNeg (cl_lt (by omega) (by omega))
                have k_642 : (1800 : Int32).toInt = 1800 := by decide
                have t_643 : ((1800 * x)).toInt = 1800 * (x).toInt := by
                  have z := ti_mul (a := 1800) (b := x) (by rw [show (1800 : Int32).toInt = 1800 from by decide]; omega) (by rw [show (1800 : Int32).toInt = 1800 from by decide]; omega)
                  rw [z, show (1800 : Int32).toInt = 1800 from by decide]
                have k_644 : (6 : Int32).toInt = 6 := by decide
                have t_645 : ((6 * k)).toInt = 6 * (k).toInt := by
                  have z := ti_mul (a := 6) (b := k) (by rw [show (6 : Int32).toInt = 6 from by decide]; omega) (by rw [show (6 : Int32).toInt = 6 from by decide]; omega)
                  rw [z, show (6 : Int32).toInt = 6 from by decide]
                have t_646 := ti_add (a := (1800 * x)) (b := (6 * k)) (by omega) (by omega)
                have k_647 : (5 : Int32).toInt = 5 := by decide
                have t_648 := ti_add (a := ((1800 * x) + (6 * k))) (b := 5) (by omega) (by omega)
                refine vin ?_ ?_
                all_goals (try generalize Int32.toInt (rw (((1800 * x) + (6 * k)) + 2).toNatClampNeg) = z0 at *; try generalize Int32.toInt (rw ((1800 * x) + (6 * k)).toNatClampNeg) = z1 at *; try generalize Int32.toInt (((1800 * x) + (6 * k)) + 5) = z2 at *; try generalize Int32.toInt ((1800 * x) + (6 * k)) = z3 at *; try generalize Int32.toInt (ct x.toNatClampNeg) = z4 at *; try generalize Int32.toInt (1800 * x) = z5 at *; try generalize Int32.toInt r_470.2.1 = z6 at *; try generalize Int32.toInt r_492.2.1 = z7 at *; try generalize Int32.toInt r_544.2.1 = z8 at *; try generalize Int32.toInt r_569.2.1 = z9 at *; try generalize Int32.toInt r_594.2.1 = z10 at *; try generalize Int32.toInt (6 * k) = z11 at *; try generalize Int32.toInt (1800 : Int32) = z12 at *; try generalize Int32.toInt wlz = z13 at *; try generalize Int32.toInt fi = z14 at *; try generalize Int32.toInt li = z15 at *; try generalize Int32.toInt (0 : Int32) = z16 at *; try generalize Int32.toInt (5 : Int32) = z17 at *; try generalize Int32.toInt (6 : Int32) = z18 at *; try generalize Int32.toInt k = z19 at *; try generalize Int32.toInt x = z20 at *; omega)
              refine va_iald hx hb hG.1 hP 1 2 rfl rfl b_637 dX9_write_243 ?_
              refine lv_if_ge (tgt := 250) hx hb dX9_write_244 (by decide) (fun c_651 => ?_) (fun c_651 => ?_)
              · rw [if_pos c_651] at hR
                refine lv_aload_n hx hb dX9_write_250 rfl (lv_at hl 5 rfl) ?_
                refine lv_aload_n hx hb dX9_write_251 rfl (lv_at hl 5 rfl) ?_
                refine va_get (D := (dC, dI)) (ci := 9) (v := .ref a0) (C := RX9) (T := TX9) (N := 17) hx hb hts inc_X9_write_9 hown hG.1 hP 0 rfl rfl 1 (by decide) (hts (.fieldLink RX9 13 "MappingDeskModel" "rows" "[I") (by decide +kernel)) (fun _ h9 => h9) rfl dX9_write_252 ?_
                refine lv_iload hx hb dX9_write_255 (lv_at hl 10 rfl) ?_
                refine lv_iconst (v := 5) hx hb dX9_write_257 (by decide) ?_
                refine lv_iadd hx hb dX9_write_258 ?_
                have b_652 : vp_in (((1800 * x) + (6 * k)) + 5) 3600 := by
                  have hq9 := hlin k (by omega) (by omega)
                  have q_653 := i_le c_91
                  have k_654 : (0 : Int32).toInt = 0 := by decide
                  have q_655 := i_eq c_92
                  have q_656 := i_le c_519
                  have q_657 := i_le c_651
                  try have hq7 := hct x.toNatClampNeg (cl_lt (by omega) (by omega))
                  have k_658 : (1800 : Int32).toInt = 1800 := by decide
                  have t_659 : ((1800 * x)).toInt = 1800 * (x).toInt := by
                    have z := ti_mul (a := 1800) (b := x) (by rw [show (1800 : Int32).toInt = 1800 from by decide]; omega) (by rw [show (1800 : Int32).toInt = 1800 from by decide]; omega)
                    rw [z, show (1800 : Int32).toInt = 1800 from by decide]
                  have k_660 : (6 : Int32).toInt = 6 := by decide
                  have t_661 : ((6 * k)).toInt = 6 * (k).toInt := by
                    have z := ti_mul (a := 6) (b := k) (by rw [show (6 : Int32).toInt = 6 from by decide]; omega) (by rw [show (6 : Int32).toInt = 6 from by decide]; omega)
                    rw [z, show (6 : Int32).toInt = 6 from by decide]
                  have t_662 := ti_add (a := (1800 * x)) (b := (6 * k)) (by omega) (by omega)
                  have k_663 : (5 : Int32).toInt = 5 := by decide
                  have t_664 := ti_add (a := ((1800 * x) + (6 * k))) (b := 5) (by omega) (by omega)
                  refine vin ?_ ?_
                  all_goals (try generalize Int32.toInt (rw (((1800 * x) + (6 * k)) + 2).toNatClampNeg) = z0 at *; try generalize Int32.toInt (rw (((1800 * x) + (6 * k)) + 5).toNatClampNeg) = z1 at *; try generalize Int32.toInt (rw ((1800 * x) + (6 * k)).toNatClampNeg) = z2 at *; try generalize Int32.toInt (((1800 * x) + (6 * k)) + 5) = z3 at *; try generalize Int32.toInt ((1800 * x) + (6 * k)) = z4 at *; try generalize Int32.toInt (ct x.toNatClampNeg) = z5 at *; try generalize Int32.toInt (1800 * x) = z6 at *; try generalize Int32.toInt r_470.2.1 = z7 at *; try generalize Int32.toInt r_492.2.1 = z8 at *; try generalize Int32.toInt r_544.2.1 = z9 at *; try generalize Int32.toInt r_569.2.1 = z10 at *; try generalize Int32.toInt r_594.2.1 = z11 at *; try generalize Int32.toInt (6 * k) = z12 at *; try generalize Int32.toInt (1800 : Int32) = z13 at *; try generalize Int32.toInt wlz = z14 at *; try generalize Int32.toInt fi = z15 at *; try generalize Int32.toInt li = z16 at *; try generalize Int32.toInt (0 : Int32) = z17 at *; try generalize Int32.toInt (5 : Int32) = z18 at *; try generalize Int32.toInt (6 : Int32) = z19 at *; try generalize Int32.toInt k = z20 at *; try generalize Int32.toInt x = z21 at *; omega)
                refine va_iald hx hb hG.1 hP 1 2 rfl rfl b_652 dX9_write_259 ?_
                refine lv_iload hx hb dX9_write_260 (lv_at hl 8 rfl) ?_
                refine lv_isub hx hb dX9_write_262 ?_
                have p_667 : 0 ≤ r_594.2.1.toInt := by
                  have hq9 := hlin k (by omega) (by omega)
                  have q_668 := i_le c_91
                  have k_669 : (0 : Int32).toInt = 0 := by decide
                  have q_670 := i_eq c_92
                  have q_671 := i_le c_519
                  have q_672 := i_le c_651
                  try have hq7 := hct x.toNatClampNeg (cl_lt (by omega) (by omega))
                  try generalize Int32.toInt (rw (((1800 * x) + (6 * k)) + 2).toNatClampNeg) = z0 at *
                  try generalize Int32.toInt (rw (((1800 * x) + (6 * k)) + 5).toNatClampNeg) = z1 at *
                  try generalize Int32.toInt (rw ((1800 * x) + (6 * k)).toNatClampNeg) = z2 at *
                  try generalize Int32.toInt (ct x.toNatClampNeg) = z3 at *
                  try generalize Int32.toInt r_470.2.1 = z4 at *
                  try generalize Int32.toInt r_492.2.1 = z5 at *
                  try generalize Int32.toInt r_544.2.1 = z6 at *
                  try generalize Int32.toInt r_569.2.1 = z7 at *
                  try generalize Int32.toInt r_594.2.1 = z8 at *
                  try generalize Int32.toInt wlz = z9 at *
                  try generalize Int32.toInt fi = z10 at *
                  try generalize Int32.toInt li = z11 at *
                  try generalize Int32.toInt (0 : Int32) = z12 at *
                  try generalize Int32.toInt k = z13 at *
                  try generalize Int32.toInt x = z14 at *
                  first | omega | exact ⟨by omega, by omega⟩
                have p_673 : r_594.2.1.toInt ≤ 6000 := by
                  have hq9 := hlin k (by omega) (by omega)
                  have q_674 := i_le c_91
                  have k_675 : (0 : Int32).toInt = 0 := by decide
                  have q_676 := i_eq c_92
                  have q_677 := i_le c_519
                  have q_678 := i_le c_651
                  try have hq7 := hct x.toNatClampNeg (cl_lt (by omega) (by omega))
                  try generalize Int32.toInt (rw (((1800 * x) + (6 * k)) + 2).toNatClampNeg) = z0 at *
                  try generalize Int32.toInt (rw (((1800 * x) + (6 * k)) + 5).toNatClampNeg) = z1 at *
                  try generalize Int32.toInt (rw ((1800 * x) + (6 * k)).toNatClampNeg) = z2 at *
                  try generalize Int32.toInt (ct x.toNatClampNeg) = z3 at *
                  try generalize Int32.toInt r_470.2.1 = z4 at *
                  try generalize Int32.toInt r_492.2.1 = z5 at *
                  try generalize Int32.toInt r_544.2.1 = z6 at *
                  try generalize Int32.toInt r_569.2.1 = z7 at *
                  try generalize Int32.toInt r_594.2.1 = z8 at *
                  try generalize Int32.toInt wlz = z9 at *
                  try generalize Int32.toInt fi = z10 at *
                  try generalize Int32.toInt li = z11 at *
                  try generalize Int32.toInt (0 : Int32) = z12 at *
                  try generalize Int32.toInt k = z13 at *
                  try generalize Int32.toInt x = z14 at *
                  first | omega | exact ⟨by omega, by omega⟩
                have hPc := hP.sub (ws' := [(h0, .inr (9, [.int 0, .ref a0, .ref a1, .ref a2, .int dc, .ref a3, .int tl, .ref a4, .int xl, .int fo, .int fa, .ref a5, .int mn, .ref a6, .int r_594.1, .ref a7, .int r_594.2.1])), (a7, .inl (cB, 6000, .inl r_594.2.2))]) [0, 4] rfl
                have hDc := hD.sub (ws' := [(h0, .inr (9, [.int 0, .ref a0, .ref a1, .ref a2, .int dc, .ref a3, .int tl, .ref a4, .int xl, .int fo, .int fa, .ref a5, .int mn, .ref a6, .int r_594.1, .ref a7, .int r_594.2.1])), (a7, .inl (cB, 6000, .inl r_594.2.2))]) [0, 4] (by decide) rfl
                have hFc := va_free (wc := [(h0, .inr (9, [.int 0, .ref a0, .ref a1, .ref a2, .int dc, .ref a3, .int tl, .ref a4, .int xl, .int fo, .int fa, .ref a5, .int mn, .ref a6, .int r_594.1, .ref a7, .int r_594.2.1])), (a7, .inl (cB, 6000, .inl r_594.2.2))]) hD hS hA [0, 4] rfl
                refine va_callv (va_runV (As := [.int ((rw (((1800 * x) + (6 * k)) + 5).toNatClampNeg) - nm)]) (rest := []) ⟨hx, hb, hml, hown, hts⟩ (c_X9_addNumber l dC dI cB cC cI cJ H.size h0 a0 a1 a2 a3 a4 a5 a6 a7 0 dc tl xl fo fa mn r_594.1 r_594.2.1 r_594.2.2 ((rw (((1800 * x) + (6 * k)) + 5).toNatClampNeg) - nm) p_667 p_673) (cwV 1 hts gX9_write_X9_addNumber rfl rfl rfl (by decide +kernel) ⟨(Nat.le_of_ble_eq_true rfl), (Nat.le_of_ble_eq_true rfl)⟩) ⟨cP_blind, va_recv hG.1 hPc (ci := 9) (q0 := 0) rfl rfl, cP_pre hPc hG hDc⟩ rfl rfl hl.1 rfl (lv_room (Nat.le_of_ble_eq_true rfl)) dX9_write_263 ⟨Nat.le_of_ble_eq_true rfl, Nat.le_of_ble_eq_true rfl⟩) hS (fun q _ h => hFc q h) hFc (fun u t H1 locs ht hvm hw hB hz1 hk1 hS => ?_)
                obtain ⟨hP1, hD1⟩ := hB
                rw [ht] at hP1
                generalize hr_679 : fX9_addNumber 0 dc tl xl fo fa mn r_594.1 r_594.2.1 r_594.2.2 ((rw (((1800 * x) + (6 * k)) + 5).toNatClampNeg) - nm) = r_679 at hP1 hD1 hw
                have er_679_0 := hw
                rw [bnd_eq hr_679] at hR
                obtain ⟨hP, hD⟩ := va_join (wr := [(a0, .inl (cI, 3600, .inl rw)), (a1, .inl (cI, 2, .inl ct)), (a4, .inl (cB, 6000, .inl tx))]) (w1 := [(h0, .inr (9, [.int 0, .ref a0, .ref a1, .ref a2, .int dc, .ref a3, .int tl, .ref a4, .int xl, .int fo, .int fa, .ref a5, .int mn, .ref a6, .int r_679.1, .ref a7, .int r_679.2.1])), (a7, .inl (cB, 6000, .inl r_679.2.2))]) hP hD [0, 4] [1, 2, 3] rfl rfl (by decide) (by decide) hk1 hFc hP1 hD1
                generalize H1 = H at hP hS ⊢
                have hP := hP.sub (ws' := [(h0, .inr (9, [.int 0, .ref a0, .ref a1, .ref a2, .int dc, .ref a3, .int tl, .ref a4, .int xl, .int fo, .int fa, .ref a5, .int mn, .ref a6, .int r_679.1, .ref a7, .int r_679.2.1])), (a0, .inl (cI, 3600, .inl rw)), (a1, .inl (cI, 2, .inl ct)), (a4, .inl (cB, 6000, .inl tx)), (a7, .inl (cB, 6000, .inl r_679.2.2))]) [3, 0, 1, 2, 4] rfl
                have hD := hD.sub (ws' := [(h0, .inr (9, [.int 0, .ref a0, .ref a1, .ref a2, .int dc, .ref a3, .int tl, .ref a4, .int xl, .int fo, .int fa, .ref a5, .int mn, .ref a6, .int r_679.1, .ref a7, .int r_679.2.1])), (a0, .inl (cI, 3600, .inl rw)), (a1, .inl (cI, 2, .inl ct)), (a4, .inl (cB, 6000, .inl tx)), (a7, .inl (cB, 6000, .inl r_679.2.2))]) [3, 0, 1, 2, 4] (by decide) rfl
                refine lv_aload_n hx hb dX9_write_266 rfl (lv_at hl 5 rfl) ?_
                refine va_get (D := (dC, dI)) (ci := 9) (v := .ref a0) (C := RX9) (T := TX9) (N := 17) hx hb hts inc_X9_write_9 hown hG.1 hP 0 rfl rfl 1 (by decide) (hts (.fieldLink RX9 13 "MappingDeskModel" "rows" "[I") (by decide +kernel)) (fun _ h9 => h9) rfl dX9_write_267 ?_
                refine lv_iload hx hb dX9_write_270 (lv_at hl 10 rfl) ?_
                refine lv_iconst (v := 5) hx hb dX9_write_272 (by decide) ?_
                refine lv_iadd hx hb dX9_write_273 ?_
                have b_680 : vp_in (((1800 * x) + (6 * k)) + 5) 3600 := by
                  have hq9 := hlin k (by omega) (by omega)
                  have q_681 := i_le c_91
                  have k_682 : (0 : Int32).toInt = 0 := by decide
                  have q_683 := i_eq c_92
                  have q_684 := i_le c_519
                  have q_685 := i_le c_651
                  try have hq7 := hct x.toNatClampNeg (cl_lt (by omega) (by omega))
                  have k_686 : (1800 : Int32).toInt = 1800 := by decide
                  have t_687 : ((1800 * x)).toInt = 1800 * (x).toInt := by
                    have z := ti_mul (a := 1800) (b := x) (by rw [show (1800 : Int32).toInt = 1800 from by decide]; omega) (by rw [show (1800 : Int32).toInt = 1800 from by decide]; omega)
                    rw [z, show (1800 : Int32).toInt = 1800 from by decide]
                  have k_688 : (6 : Int32).toInt = 6 := by decide
                  have t_689 : ((6 * k)).toInt = 6 * (k).toInt := by
                    have z := ti_mul (a := 6) (b := k) (by rw [show (6 : Int32).toInt = 6 from by decide]; omega) (by rw [show (6 : Int32).toInt = 6 from by decide]; omega)
                    rw [z, show (6 : Int32).toInt = 6 from by decide]
                  have t_690 := ti_add (a := (1800 * x)) (b := (6 * k)) (by omega) (by omega)
                  have k_691 : (5 : Int32).toInt = 5 := by decide
                  have t_692 := ti_add (a := ((1800 * x) + (6 * k))) (b := 5) (by omega) (by omega)
                  refine vin ?_ ?_
                  all_goals (try generalize Int32.toInt (rw (((1800 * x) + (6 * k)) + 2).toNatClampNeg) = z0 at *; try generalize Int32.toInt (rw (((1800 * x) + (6 * k)) + 5).toNatClampNeg) = z1 at *; try generalize Int32.toInt (rw ((1800 * x) + (6 * k)).toNatClampNeg) = z2 at *; try generalize Int32.toInt (((1800 * x) + (6 * k)) + 5) = z3 at *; try generalize Int32.toInt ((1800 * x) + (6 * k)) = z4 at *; try generalize Int32.toInt (ct x.toNatClampNeg) = z5 at *; try generalize Int32.toInt (1800 * x) = z6 at *; try generalize Int32.toInt r_470.2.1 = z7 at *; try generalize Int32.toInt r_492.2.1 = z8 at *; try generalize Int32.toInt r_544.2.1 = z9 at *; try generalize Int32.toInt r_569.2.1 = z10 at *; try generalize Int32.toInt r_594.2.1 = z11 at *; try generalize Int32.toInt r_679.2.1 = z12 at *; try generalize Int32.toInt (6 * k) = z13 at *; try generalize Int32.toInt (1800 : Int32) = z14 at *; try generalize Int32.toInt wlz = z15 at *; try generalize Int32.toInt fi = z16 at *; try generalize Int32.toInt li = z17 at *; try generalize Int32.toInt (0 : Int32) = z18 at *; try generalize Int32.toInt (5 : Int32) = z19 at *; try generalize Int32.toInt (6 : Int32) = z20 at *; try generalize Int32.toInt k = z21 at *; try generalize Int32.toInt x = z22 at *; omega)
                refine va_iald hx hb hG.1 hP 1 2 rfl rfl b_680 dX9_write_274 ?_
                refine lv_istore (lv' := [(7, .int (rw (((1800 * x) + (6 * k)) + 5).toNatClampNeg)), (6, .int (rw (((1800 * x) + (6 * k)) + 4).toNatClampNeg)), (5, .int (rw (((1800 * x) + (6 * k)) + 3).toNatClampNeg)), (4, .int (rw (((1800 * x) + (6 * k)) + 2).toNatClampNeg)), (3, .int (rw (((1800 * x) + (6 * k)) + 1).toNatClampNeg)), (8, .int 0), (0, .ref h0), (1, .int x), (2, .int li), (9, .int k), (10, .int ((1800 * x) + (6 * k)))]) hx hb dX9_write_275 hl (by decide) rfl (fun ls hl => ?_)
                refine lv_iinc (v := (k + 1)) (lv' := [(9, .int (k + 1)), (7, .int (rw (((1800 * x) + (6 * k)) + 5).toNatClampNeg)), (6, .int (rw (((1800 * x) + (6 * k)) + 4).toNatClampNeg)), (5, .int (rw (((1800 * x) + (6 * k)) + 3).toNatClampNeg)), (4, .int (rw (((1800 * x) + (6 * k)) + 2).toNatClampNeg)), (3, .int (rw (((1800 * x) + (6 * k)) + 1).toNatClampNeg)), (8, .int 0), (0, .ref h0), (1, .int x), (2, .int li), (10, .int ((1800 * x) + (6 * k)))]) hx hb dX9_write_277 hl (k := 9) rfl rfl (by decide) rfl (fun ls hl => ?_)
                refine lv_goto (tgt := 48) hx hb dX9_write_280 (by decide) ?_
                have v_700 : 0 ≤ x.toInt := by
                  exact hx0
                have v_701 : x.toInt ≤ 1 := by
                  exact hx1
                have v_702 : 0 ≤ ((k + 1)).toInt := by
                  have hq9 := hlin k (by omega) (by omega)
                  have q_703 := i_le c_91
                  have k_704 : (0 : Int32).toInt = 0 := by decide
                  have q_705 := i_eq c_92
                  have q_706 := i_le c_519
                  have q_707 := i_le c_651
                  try have hq7 := hct x.toNatClampNeg (cl_lt (by omega) (by omega))
                  have k_708 : (1 : Int32).toInt = 1 := by decide
                  have t_709 := ti_add (a := k) (b := 1) (by omega) (by omega)
                  try generalize Int32.toInt (rw (((1800 * x) + (6 * k)) + 2).toNatClampNeg) = z0 at *
                  try generalize Int32.toInt (rw (((1800 * x) + (6 * k)) + 5).toNatClampNeg) = z1 at *
                  try generalize Int32.toInt (rw ((1800 * x) + (6 * k)).toNatClampNeg) = z2 at *
                  try generalize Int32.toInt (ct x.toNatClampNeg) = z3 at *
                  try generalize Int32.toInt r_470.2.1 = z4 at *
                  try generalize Int32.toInt r_492.2.1 = z5 at *
                  try generalize Int32.toInt r_544.2.1 = z6 at *
                  try generalize Int32.toInt r_569.2.1 = z7 at *
                  try generalize Int32.toInt r_594.2.1 = z8 at *
                  try generalize Int32.toInt r_679.2.1 = z9 at *
                  try generalize Int32.toInt (k + 1) = z10 at *
                  try generalize Int32.toInt wlz = z11 at *
                  try generalize Int32.toInt fi = z12 at *
                  try generalize Int32.toInt li = z13 at *
                  try generalize Int32.toInt (0 : Int32) = z14 at *
                  try generalize Int32.toInt (1 : Int32) = z15 at *
                  try generalize Int32.toInt k = z16 at *
                  try generalize Int32.toInt x = z17 at *
                  omega
                have v_710 : 0 ≤ li.toInt := by
                  have hq9 := hlin k (by omega) (by omega)
                  have q_711 := i_le c_91
                  have k_712 : (0 : Int32).toInt = 0 := by decide
                  have q_713 := i_eq c_92
                  have q_714 := i_le c_519
                  have q_715 := i_le c_651
                  try have hq7 := hct x.toNatClampNeg (cl_lt (by omega) (by omega))
                  try generalize Int32.toInt (rw (((1800 * x) + (6 * k)) + 2).toNatClampNeg) = z0 at *
                  try generalize Int32.toInt (rw (((1800 * x) + (6 * k)) + 5).toNatClampNeg) = z1 at *
                  try generalize Int32.toInt (rw ((1800 * x) + (6 * k)).toNatClampNeg) = z2 at *
                  try generalize Int32.toInt (ct x.toNatClampNeg) = z3 at *
                  try generalize Int32.toInt r_470.2.1 = z4 at *
                  try generalize Int32.toInt r_492.2.1 = z5 at *
                  try generalize Int32.toInt r_544.2.1 = z6 at *
                  try generalize Int32.toInt r_569.2.1 = z7 at *
                  try generalize Int32.toInt r_594.2.1 = z8 at *
                  try generalize Int32.toInt r_679.2.1 = z9 at *
                  try generalize Int32.toInt wlz = z10 at *
                  try generalize Int32.toInt fi = z11 at *
                  try generalize Int32.toInt li = z12 at *
                  try generalize Int32.toInt (0 : Int32) = z13 at *
                  try generalize Int32.toInt k = z14 at *
                  try generalize Int32.toInt x = z15 at *
                  omega
                have v_716 : li.toInt ≤ 199 := by
                  have hq9 := hlin k (by omega) (by omega)
                  have q_717 := i_le c_91
                  have k_718 : (0 : Int32).toInt = 0 := by decide
                  have q_719 := i_eq c_92
                  have q_720 := i_le c_519
                  have q_721 := i_le c_651
                  try have hq7 := hct x.toNatClampNeg (cl_lt (by omega) (by omega))
                  try generalize Int32.toInt (rw (((1800 * x) + (6 * k)) + 2).toNatClampNeg) = z0 at *
                  try generalize Int32.toInt (rw (((1800 * x) + (6 * k)) + 5).toNatClampNeg) = z1 at *
                  try generalize Int32.toInt (rw ((1800 * x) + (6 * k)).toNatClampNeg) = z2 at *
                  try generalize Int32.toInt (ct x.toNatClampNeg) = z3 at *
                  try generalize Int32.toInt r_470.2.1 = z4 at *
                  try generalize Int32.toInt r_492.2.1 = z5 at *
                  try generalize Int32.toInt r_544.2.1 = z6 at *
                  try generalize Int32.toInt r_569.2.1 = z7 at *
                  try generalize Int32.toInt r_594.2.1 = z8 at *
                  try generalize Int32.toInt r_679.2.1 = z9 at *
                  try generalize Int32.toInt wlz = z10 at *
                  try generalize Int32.toInt fi = z11 at *
                  try generalize Int32.toInt li = z12 at *
                  try generalize Int32.toInt (0 : Int32) = z13 at *
                  try generalize Int32.toInt k = z14 at *
                  try generalize Int32.toInt x = z15 at *
                  omega
                have v_722 : 0 ≤ r_679.2.1.toInt := by
                  have hq9 := hlin k (by omega) (by omega)
                  have q_723 := i_le c_91
                  have k_724 : (0 : Int32).toInt = 0 := by decide
                  have q_725 := i_eq c_92
                  have q_726 := i_le c_519
                  have q_727 := i_le c_651
                  try have hq7 := hct x.toNatClampNeg (cl_lt (by omega) (by omega))
                  try generalize Int32.toInt (rw (((1800 * x) + (6 * k)) + 2).toNatClampNeg) = z0 at *
                  try generalize Int32.toInt (rw (((1800 * x) + (6 * k)) + 5).toNatClampNeg) = z1 at *
                  try generalize Int32.toInt (rw ((1800 * x) + (6 * k)).toNatClampNeg) = z2 at *
                  try generalize Int32.toInt (ct x.toNatClampNeg) = z3 at *
                  try generalize Int32.toInt r_470.2.1 = z4 at *
                  try generalize Int32.toInt r_492.2.1 = z5 at *
                  try generalize Int32.toInt r_544.2.1 = z6 at *
                  try generalize Int32.toInt r_569.2.1 = z7 at *
                  try generalize Int32.toInt r_594.2.1 = z8 at *
                  try generalize Int32.toInt r_679.2.1 = z9 at *
                  try generalize Int32.toInt wlz = z10 at *
                  try generalize Int32.toInt fi = z11 at *
                  try generalize Int32.toInt li = z12 at *
                  try generalize Int32.toInt (0 : Int32) = z13 at *
                  try generalize Int32.toInt k = z14 at *
                  try generalize Int32.toInt x = z15 at *
                  omega
                have v_728 : r_679.2.1.toInt ≤ 6000 := by
                  have hq9 := hlin k (by omega) (by omega)
                  have q_729 := i_le c_91
                  have k_730 : (0 : Int32).toInt = 0 := by decide
                  have q_731 := i_eq c_92
                  have q_732 := i_le c_519
                  have q_733 := i_le c_651
                  try have hq7 := hct x.toNatClampNeg (cl_lt (by omega) (by omega))
                  try generalize Int32.toInt (rw (((1800 * x) + (6 * k)) + 2).toNatClampNeg) = z0 at *
                  try generalize Int32.toInt (rw (((1800 * x) + (6 * k)) + 5).toNatClampNeg) = z1 at *
                  try generalize Int32.toInt (rw ((1800 * x) + (6 * k)).toNatClampNeg) = z2 at *
                  try generalize Int32.toInt (ct x.toNatClampNeg) = z3 at *
                  try generalize Int32.toInt r_470.2.1 = z4 at *
                  try generalize Int32.toInt r_492.2.1 = z5 at *
                  try generalize Int32.toInt r_544.2.1 = z6 at *
                  try generalize Int32.toInt r_569.2.1 = z7 at *
                  try generalize Int32.toInt r_594.2.1 = z8 at *
                  try generalize Int32.toInt r_679.2.1 = z9 at *
                  try generalize Int32.toInt wlz = z10 at *
                  try generalize Int32.toInt fi = z11 at *
                  try generalize Int32.toInt li = z12 at *
                  try generalize Int32.toInt (0 : Int32) = z13 at *
                  try generalize Int32.toInt k = z14 at *
                  try generalize Int32.toInt x = z15 at *
                  omega
                have v_734 : ((k + 1)).toInt ≤ (ct x.toNatClampNeg).toInt := by
                  have hq9 := hlin k (by omega) (by omega)
                  have q_735 := i_le c_91
                  have k_736 : (0 : Int32).toInt = 0 := by decide
                  have q_737 := i_eq c_92
                  have q_738 := i_le c_519
                  have q_739 := i_le c_651
                  try have hq7 := hct x.toNatClampNeg (cl_lt (by omega) (by omega))
                  have k_740 : (1 : Int32).toInt = 1 := by decide
                  have t_741 := ti_add (a := k) (b := 1) (by omega) (by omega)
                  try generalize Int32.toInt (rw (((1800 * x) + (6 * k)) + 2).toNatClampNeg) = z0 at *
                  try generalize Int32.toInt (rw (((1800 * x) + (6 * k)) + 5).toNatClampNeg) = z1 at *
                  try generalize Int32.toInt (rw ((1800 * x) + (6 * k)).toNatClampNeg) = z2 at *
                  try generalize Int32.toInt (ct x.toNatClampNeg) = z3 at *
                  try generalize Int32.toInt r_470.2.1 = z4 at *
                  try generalize Int32.toInt r_492.2.1 = z5 at *
                  try generalize Int32.toInt r_544.2.1 = z6 at *
                  try generalize Int32.toInt r_569.2.1 = z7 at *
                  try generalize Int32.toInt r_594.2.1 = z8 at *
                  try generalize Int32.toInt r_679.2.1 = z9 at *
                  try generalize Int32.toInt (k + 1) = z10 at *
                  try generalize Int32.toInt wlz = z11 at *
                  try generalize Int32.toInt fi = z12 at *
                  try generalize Int32.toInt li = z13 at *
                  try generalize Int32.toInt (0 : Int32) = z14 at *
                  try generalize Int32.toInt (1 : Int32) = z15 at *
                  try generalize Int32.toInt k = z16 at *
                  try generalize Int32.toInt x = z17 at *
                  omega
                have v_742 : 3 * ((ct x.toNatClampNeg).toInt - ((k + 1)).toInt) + (200 - li.toInt) + 1 < ((n : Nat) : Int) := by
                  have hq9 := hlin k (by omega) (by omega)
                  have q_743 := i_le c_91
                  have k_744 : (0 : Int32).toInt = 0 := by decide
                  have q_745 := i_eq c_92
                  have q_746 := i_le c_519
                  have q_747 := i_le c_651
                  try have hq7 := hct x.toNatClampNeg (cl_lt (by omega) (by omega))
                  have k_748 : (1 : Int32).toInt = 1 := by decide
                  have t_749 := ti_add (a := k) (b := 1) (by omega) (by omega)
                  try generalize Int32.toInt (rw (((1800 * x) + (6 * k)) + 2).toNatClampNeg) = z0 at *
                  try generalize Int32.toInt (rw (((1800 * x) + (6 * k)) + 5).toNatClampNeg) = z1 at *
                  try generalize Int32.toInt (rw ((1800 * x) + (6 * k)).toNatClampNeg) = z2 at *
                  try generalize Int32.toInt (ct x.toNatClampNeg) = z3 at *
                  try generalize Int32.toInt r_470.2.1 = z4 at *
                  try generalize Int32.toInt r_492.2.1 = z5 at *
                  try generalize Int32.toInt r_544.2.1 = z6 at *
                  try generalize Int32.toInt r_569.2.1 = z7 at *
                  try generalize Int32.toInt r_594.2.1 = z8 at *
                  try generalize Int32.toInt r_679.2.1 = z9 at *
                  try generalize Int32.toInt (k + 1) = z10 at *
                  try generalize Int32.toInt wlz = z11 at *
                  try generalize Int32.toInt fi = z12 at *
                  try generalize Int32.toInt li = z13 at *
                  try generalize Int32.toInt (0 : Int32) = z14 at *
                  try generalize Int32.toInt (1 : Int32) = z15 at *
                  try generalize Int32.toInt k = z16 at *
                  try generalize Int32.toInt x = z17 at *
                  omega
                exact ih_48 (li) ((rw (((1800 * x) + (6 * k)) + 1).toNatClampNeg)) ((rw (((1800 * x) + (6 * k)) + 2).toNatClampNeg)) ((rw (((1800 * x) + (6 * k)) + 3).toNatClampNeg)) ((rw (((1800 * x) + (6 * k)) + 4).toNatClampNeg)) ((rw (((1800 * x) + (6 * k)) + 5).toNatClampNeg)) (0) ((k + 1)) (r_679.1) (r_679.2.1) (r_679.2.2) _ _ ls hR v_700 v_701 v_702 v_710 v_716 v_722 v_728 v_734 v_742 hP hD hS (lv_sub hl [7, 8, 9, 5, 4, 3, 2, 1, 6, 0] rfl)
              · rw [if_neg c_651] at hR
                refine lv_goto (tgt := 277) hx hb dX9_write_247 (by decide) ?_
                refine lv_iinc (v := (k + 1)) (lv' := [(9, .int (k + 1)), (6, .int (rw (((1800 * x) + (6 * k)) + 4).toNatClampNeg)), (5, .int (rw (((1800 * x) + (6 * k)) + 3).toNatClampNeg)), (4, .int (rw (((1800 * x) + (6 * k)) + 2).toNatClampNeg)), (3, .int (rw (((1800 * x) + (6 * k)) + 1).toNatClampNeg)), (8, .int 0), (0, .ref h0), (1, .int x), (2, .int li), (7, .int nm), (10, .int ((1800 * x) + (6 * k)))]) hx hb dX9_write_277 hl (k := 9) rfl rfl (by decide) rfl (fun ls hl => ?_)
                refine lv_goto (tgt := 48) hx hb dX9_write_280 (by decide) ?_
                have v_755 : 0 ≤ x.toInt := by
                  exact hx0
                have v_756 : x.toInt ≤ 1 := by
                  exact hx1
                have v_757 : 0 ≤ ((k + 1)).toInt := by
                  have hq9 := hlin k (by omega) (by omega)
                  have q_758 := i_le c_91
                  have k_759 : (0 : Int32).toInt = 0 := by decide
                  have q_760 := i_eq c_92
                  have q_761 := i_le c_519
                  have q_762 := i_nle c_651
                  try have hq7 := hct x.toNatClampNeg (cl_lt (by omega) (by omega))
                  have k_763 : (1 : Int32).toInt = 1 := by decide
                  have t_764 := ti_add (a := k) (b := 1) (by omega) (by omega)
                  try generalize Int32.toInt (rw (((1800 * x) + (6 * k)) + 2).toNatClampNeg) = z0 at *
                  try generalize Int32.toInt (rw (((1800 * x) + (6 * k)) + 5).toNatClampNeg) = z1 at *
                  try generalize Int32.toInt (rw ((1800 * x) + (6 * k)).toNatClampNeg) = z2 at *
                  try generalize Int32.toInt (ct x.toNatClampNeg) = z3 at *
                  try generalize Int32.toInt r_470.2.1 = z4 at *
                  try generalize Int32.toInt r_492.2.1 = z5 at *
                  try generalize Int32.toInt r_544.2.1 = z6 at *
                  try generalize Int32.toInt r_569.2.1 = z7 at *
                  try generalize Int32.toInt r_594.2.1 = z8 at *
                  try generalize Int32.toInt (k + 1) = z9 at *
                  try generalize Int32.toInt wlz = z10 at *
                  try generalize Int32.toInt fi = z11 at *
                  try generalize Int32.toInt li = z12 at *
                  try generalize Int32.toInt (0 : Int32) = z13 at *
                  try generalize Int32.toInt (1 : Int32) = z14 at *
                  try generalize Int32.toInt k = z15 at *
                  try generalize Int32.toInt x = z16 at *
                  omega
                have v_765 : 0 ≤ li.toInt := by
                  have hq9 := hlin k (by omega) (by omega)
                  have q_766 := i_le c_91
                  have k_767 : (0 : Int32).toInt = 0 := by decide
                  have q_768 := i_eq c_92
                  have q_769 := i_le c_519
                  have q_770 := i_nle c_651
                  try have hq7 := hct x.toNatClampNeg (cl_lt (by omega) (by omega))
                  try generalize Int32.toInt (rw (((1800 * x) + (6 * k)) + 2).toNatClampNeg) = z0 at *
                  try generalize Int32.toInt (rw (((1800 * x) + (6 * k)) + 5).toNatClampNeg) = z1 at *
                  try generalize Int32.toInt (rw ((1800 * x) + (6 * k)).toNatClampNeg) = z2 at *
                  try generalize Int32.toInt (ct x.toNatClampNeg) = z3 at *
                  try generalize Int32.toInt r_470.2.1 = z4 at *
                  try generalize Int32.toInt r_492.2.1 = z5 at *
                  try generalize Int32.toInt r_544.2.1 = z6 at *
                  try generalize Int32.toInt r_569.2.1 = z7 at *
                  try generalize Int32.toInt r_594.2.1 = z8 at *
                  try generalize Int32.toInt wlz = z9 at *
                  try generalize Int32.toInt fi = z10 at *
                  try generalize Int32.toInt li = z11 at *
                  try generalize Int32.toInt (0 : Int32) = z12 at *
                  try generalize Int32.toInt k = z13 at *
                  try generalize Int32.toInt x = z14 at *
                  omega
                have v_771 : li.toInt ≤ 199 := by
                  have hq9 := hlin k (by omega) (by omega)
                  have q_772 := i_le c_91
                  have k_773 : (0 : Int32).toInt = 0 := by decide
                  have q_774 := i_eq c_92
                  have q_775 := i_le c_519
                  have q_776 := i_nle c_651
                  try have hq7 := hct x.toNatClampNeg (cl_lt (by omega) (by omega))
                  try generalize Int32.toInt (rw (((1800 * x) + (6 * k)) + 2).toNatClampNeg) = z0 at *
                  try generalize Int32.toInt (rw (((1800 * x) + (6 * k)) + 5).toNatClampNeg) = z1 at *
                  try generalize Int32.toInt (rw ((1800 * x) + (6 * k)).toNatClampNeg) = z2 at *
                  try generalize Int32.toInt (ct x.toNatClampNeg) = z3 at *
                  try generalize Int32.toInt r_470.2.1 = z4 at *
                  try generalize Int32.toInt r_492.2.1 = z5 at *
                  try generalize Int32.toInt r_544.2.1 = z6 at *
                  try generalize Int32.toInt r_569.2.1 = z7 at *
                  try generalize Int32.toInt r_594.2.1 = z8 at *
                  try generalize Int32.toInt wlz = z9 at *
                  try generalize Int32.toInt fi = z10 at *
                  try generalize Int32.toInt li = z11 at *
                  try generalize Int32.toInt (0 : Int32) = z12 at *
                  try generalize Int32.toInt k = z13 at *
                  try generalize Int32.toInt x = z14 at *
                  omega
                have v_777 : 0 ≤ r_594.2.1.toInt := by
                  have hq9 := hlin k (by omega) (by omega)
                  have q_778 := i_le c_91
                  have k_779 : (0 : Int32).toInt = 0 := by decide
                  have q_780 := i_eq c_92
                  have q_781 := i_le c_519
                  have q_782 := i_nle c_651
                  try have hq7 := hct x.toNatClampNeg (cl_lt (by omega) (by omega))
                  try generalize Int32.toInt (rw (((1800 * x) + (6 * k)) + 2).toNatClampNeg) = z0 at *
                  try generalize Int32.toInt (rw (((1800 * x) + (6 * k)) + 5).toNatClampNeg) = z1 at *
                  try generalize Int32.toInt (rw ((1800 * x) + (6 * k)).toNatClampNeg) = z2 at *
                  try generalize Int32.toInt (ct x.toNatClampNeg) = z3 at *
                  try generalize Int32.toInt r_470.2.1 = z4 at *
                  try generalize Int32.toInt r_492.2.1 = z5 at *
                  try generalize Int32.toInt r_544.2.1 = z6 at *
                  try generalize Int32.toInt r_569.2.1 = z7 at *
                  try generalize Int32.toInt r_594.2.1 = z8 at *
                  try generalize Int32.toInt wlz = z9 at *
                  try generalize Int32.toInt fi = z10 at *
                  try generalize Int32.toInt li = z11 at *
                  try generalize Int32.toInt (0 : Int32) = z12 at *
                  try generalize Int32.toInt k = z13 at *
                  try generalize Int32.toInt x = z14 at *
                  omega
                have v_783 : r_594.2.1.toInt ≤ 6000 := by
                  have hq9 := hlin k (by omega) (by omega)
                  have q_784 := i_le c_91
                  have k_785 : (0 : Int32).toInt = 0 := by decide
                  have q_786 := i_eq c_92
                  have q_787 := i_le c_519
                  have q_788 := i_nle c_651
                  try have hq7 := hct x.toNatClampNeg (cl_lt (by omega) (by omega))
                  try generalize Int32.toInt (rw (((1800 * x) + (6 * k)) + 2).toNatClampNeg) = z0 at *
                  try generalize Int32.toInt (rw (((1800 * x) + (6 * k)) + 5).toNatClampNeg) = z1 at *
                  try generalize Int32.toInt (rw ((1800 * x) + (6 * k)).toNatClampNeg) = z2 at *
                  try generalize Int32.toInt (ct x.toNatClampNeg) = z3 at *
                  try generalize Int32.toInt r_470.2.1 = z4 at *
                  try generalize Int32.toInt r_492.2.1 = z5 at *
                  try generalize Int32.toInt r_544.2.1 = z6 at *
                  try generalize Int32.toInt r_569.2.1 = z7 at *
                  try generalize Int32.toInt r_594.2.1 = z8 at *
                  try generalize Int32.toInt wlz = z9 at *
                  try generalize Int32.toInt fi = z10 at *
                  try generalize Int32.toInt li = z11 at *
                  try generalize Int32.toInt (0 : Int32) = z12 at *
                  try generalize Int32.toInt k = z13 at *
                  try generalize Int32.toInt x = z14 at *
                  omega
                have v_789 : ((k + 1)).toInt ≤ (ct x.toNatClampNeg).toInt := by
                  have hq9 := hlin k (by omega) (by omega)
                  have q_790 := i_le c_91
                  have k_791 : (0 : Int32).toInt = 0 := by decide
                  have q_792 := i_eq c_92
                  have q_793 := i_le c_519
                  have q_794 := i_nle c_651
                  try have hq7 := hct x.toNatClampNeg (cl_lt (by omega) (by omega))
                  have k_795 : (1 : Int32).toInt = 1 := by decide
                  have t_796 := ti_add (a := k) (b := 1) (by omega) (by omega)
                  try generalize Int32.toInt (rw (((1800 * x) + (6 * k)) + 2).toNatClampNeg) = z0 at *
                  try generalize Int32.toInt (rw (((1800 * x) + (6 * k)) + 5).toNatClampNeg) = z1 at *
                  try generalize Int32.toInt (rw ((1800 * x) + (6 * k)).toNatClampNeg) = z2 at *
                  try generalize Int32.toInt (ct x.toNatClampNeg) = z3 at *
                  try generalize Int32.toInt r_470.2.1 = z4 at *
                  try generalize Int32.toInt r_492.2.1 = z5 at *
                  try generalize Int32.toInt r_544.2.1 = z6 at *
                  try generalize Int32.toInt r_569.2.1 = z7 at *
                  try generalize Int32.toInt r_594.2.1 = z8 at *
                  try generalize Int32.toInt (k + 1) = z9 at *
                  try generalize Int32.toInt wlz = z10 at *
                  try generalize Int32.toInt fi = z11 at *
                  try generalize Int32.toInt li = z12 at *
                  try generalize Int32.toInt (0 : Int32) = z13 at *
                  try generalize Int32.toInt (1 : Int32) = z14 at *
                  try generalize Int32.toInt k = z15 at *
                  try generalize Int32.toInt x = z16 at *
                  omega
                have v_797 : 3 * ((ct x.toNatClampNeg).toInt - ((k + 1)).toInt) + (200 - li.toInt) + 1 < ((n : Nat) : Int) := by
                  have hq9 := hlin k (by omega) (by omega)
                  have q_798 := i_le c_91
                  have k_799 : (0 : Int32).toInt = 0 := by decide
                  have q_800 := i_eq c_92
                  have q_801 := i_le c_519
                  have q_802 := i_nle c_651
                  try have hq7 := hct x.toNatClampNeg (cl_lt (by omega) (by omega))
                  have k_803 : (1 : Int32).toInt = 1 := by decide
                  have t_804 := ti_add (a := k) (b := 1) (by omega) (by omega)
                  try generalize Int32.toInt (rw (((1800 * x) + (6 * k)) + 2).toNatClampNeg) = z0 at *
                  try generalize Int32.toInt (rw (((1800 * x) + (6 * k)) + 5).toNatClampNeg) = z1 at *
                  try generalize Int32.toInt (rw ((1800 * x) + (6 * k)).toNatClampNeg) = z2 at *
                  try generalize Int32.toInt (ct x.toNatClampNeg) = z3 at *
                  try generalize Int32.toInt r_470.2.1 = z4 at *
                  try generalize Int32.toInt r_492.2.1 = z5 at *
                  try generalize Int32.toInt r_544.2.1 = z6 at *
                  try generalize Int32.toInt r_569.2.1 = z7 at *
                  try generalize Int32.toInt r_594.2.1 = z8 at *
                  try generalize Int32.toInt (k + 1) = z9 at *
                  try generalize Int32.toInt wlz = z10 at *
                  try generalize Int32.toInt fi = z11 at *
                  try generalize Int32.toInt li = z12 at *
                  try generalize Int32.toInt (0 : Int32) = z13 at *
                  try generalize Int32.toInt (1 : Int32) = z14 at *
                  try generalize Int32.toInt k = z15 at *
                  try generalize Int32.toInt x = z16 at *
                  omega
                exact ih_48 (li) ((rw (((1800 * x) + (6 * k)) + 1).toNatClampNeg)) ((rw (((1800 * x) + (6 * k)) + 2).toNatClampNeg)) ((rw (((1800 * x) + (6 * k)) + 3).toNatClampNeg)) ((rw (((1800 * x) + (6 * k)) + 4).toNatClampNeg)) (nm) (0) ((k + 1)) (r_594.1) (r_594.2.1) (r_594.2.2) _ _ ls hR v_755 v_756 v_757 v_765 v_771 v_777 v_783 v_789 v_797 hP hD hS (lv_sub hl [6, 7, 8, 4, 3, 2, 1, 9, 5, 0] rfl)
            · rw [if_neg c_519] at hR
              refine lv_goto (tgt := 277) hx hb dX9_write_151 (by decide) ?_
              refine lv_iinc (v := (k + 1)) (lv' := [(9, .int (k + 1)), (3, .int (rw (((1800 * x) + (6 * k)) + 1).toNatClampNeg)), (8, .int 0), (0, .ref h0), (1, .int x), (2, .int li), (4, .int so), (5, .int sl), (6, .int sc), (7, .int nm), (10, .int ((1800 * x) + (6 * k)))]) hx hb dX9_write_277 hl (k := 9) rfl rfl (by decide) rfl (fun ls hl => ?_)
              refine lv_goto (tgt := 48) hx hb dX9_write_280 (by decide) ?_
              have v_809 : 0 ≤ x.toInt := by
                exact hx0
              have v_810 : x.toInt ≤ 1 := by
                exact hx1
              have v_811 : 0 ≤ ((k + 1)).toInt := by
                have hq9 := hlin k (by omega) (by omega)
                have q_812 := i_le c_91
                have k_813 : (0 : Int32).toInt = 0 := by decide
                have q_814 := i_eq c_92
                have q_815 := i_nle c_519
                try have hq7 := hct x.toNatClampNeg (cl_lt (by omega) (by omega))
                have k_816 : (1 : Int32).toInt = 1 := by decide
                have t_817 := ti_add (a := k) (b := 1) (by omega) (by omega)
                try generalize Int32.toInt (rw (((1800 * x) + (6 * k)) + 2).toNatClampNeg) = z0 at *
                try generalize Int32.toInt (rw ((1800 * x) + (6 * k)).toNatClampNeg) = z1 at *
                try generalize Int32.toInt (ct x.toNatClampNeg) = z2 at *
                try generalize Int32.toInt r_470.2.1 = z3 at *
                try generalize Int32.toInt r_492.2.1 = z4 at *
                try generalize Int32.toInt (k + 1) = z5 at *
                try generalize Int32.toInt wlz = z6 at *
                try generalize Int32.toInt fi = z7 at *
                try generalize Int32.toInt li = z8 at *
                try generalize Int32.toInt (0 : Int32) = z9 at *
                try generalize Int32.toInt (1 : Int32) = z10 at *
                try generalize Int32.toInt k = z11 at *
                try generalize Int32.toInt x = z12 at *
                omega
              have v_818 : 0 ≤ li.toInt := by
                have hq9 := hlin k (by omega) (by omega)
                have q_819 := i_le c_91
                have k_820 : (0 : Int32).toInt = 0 := by decide
                have q_821 := i_eq c_92
                have q_822 := i_nle c_519
                try have hq7 := hct x.toNatClampNeg (cl_lt (by omega) (by omega))
                try generalize Int32.toInt (rw (((1800 * x) + (6 * k)) + 2).toNatClampNeg) = z0 at *
                try generalize Int32.toInt (rw ((1800 * x) + (6 * k)).toNatClampNeg) = z1 at *
                try generalize Int32.toInt (ct x.toNatClampNeg) = z2 at *
                try generalize Int32.toInt r_470.2.1 = z3 at *
                try generalize Int32.toInt r_492.2.1 = z4 at *
                try generalize Int32.toInt wlz = z5 at *
                try generalize Int32.toInt fi = z6 at *
                try generalize Int32.toInt li = z7 at *
                try generalize Int32.toInt (0 : Int32) = z8 at *
                try generalize Int32.toInt k = z9 at *
                try generalize Int32.toInt x = z10 at *
                omega
              have v_823 : li.toInt ≤ 199 := by
                have hq9 := hlin k (by omega) (by omega)
                have q_824 := i_le c_91
                have k_825 : (0 : Int32).toInt = 0 := by decide
                have q_826 := i_eq c_92
                have q_827 := i_nle c_519
                try have hq7 := hct x.toNatClampNeg (cl_lt (by omega) (by omega))
                try generalize Int32.toInt (rw (((1800 * x) + (6 * k)) + 2).toNatClampNeg) = z0 at *
                try generalize Int32.toInt (rw ((1800 * x) + (6 * k)).toNatClampNeg) = z1 at *
                try generalize Int32.toInt (ct x.toNatClampNeg) = z2 at *
                try generalize Int32.toInt r_470.2.1 = z3 at *
                try generalize Int32.toInt r_492.2.1 = z4 at *
                try generalize Int32.toInt wlz = z5 at *
                try generalize Int32.toInt fi = z6 at *
                try generalize Int32.toInt li = z7 at *
                try generalize Int32.toInt (0 : Int32) = z8 at *
                try generalize Int32.toInt k = z9 at *
                try generalize Int32.toInt x = z10 at *
                omega
              have v_828 : 0 ≤ r_492.2.1.toInt := by
                have hq9 := hlin k (by omega) (by omega)
                have q_829 := i_le c_91
                have k_830 : (0 : Int32).toInt = 0 := by decide
                have q_831 := i_eq c_92
                have q_832 := i_nle c_519
                try have hq7 := hct x.toNatClampNeg (cl_lt (by omega) (by omega))
                try generalize Int32.toInt (rw (((1800 * x) + (6 * k)) + 2).toNatClampNeg) = z0 at *
                try generalize Int32.toInt (rw ((1800 * x) + (6 * k)).toNatClampNeg) = z1 at *
                try generalize Int32.toInt (ct x.toNatClampNeg) = z2 at *
                try generalize Int32.toInt r_470.2.1 = z3 at *
                try generalize Int32.toInt r_492.2.1 = z4 at *
                try generalize Int32.toInt wlz = z5 at *
                try generalize Int32.toInt fi = z6 at *
                try generalize Int32.toInt li = z7 at *
                try generalize Int32.toInt (0 : Int32) = z8 at *
                try generalize Int32.toInt k = z9 at *
                try generalize Int32.toInt x = z10 at *
                omega
              have v_833 : r_492.2.1.toInt ≤ 6000 := by
                have hq9 := hlin k (by omega) (by omega)
                have q_834 := i_le c_91
                have k_835 : (0 : Int32).toInt = 0 := by decide
                have q_836 := i_eq c_92
                have q_837 := i_nle c_519
                try have hq7 := hct x.toNatClampNeg (cl_lt (by omega) (by omega))
                try generalize Int32.toInt (rw (((1800 * x) + (6 * k)) + 2).toNatClampNeg) = z0 at *
                try generalize Int32.toInt (rw ((1800 * x) + (6 * k)).toNatClampNeg) = z1 at *
                try generalize Int32.toInt (ct x.toNatClampNeg) = z2 at *
                try generalize Int32.toInt r_470.2.1 = z3 at *
                try generalize Int32.toInt r_492.2.1 = z4 at *
                try generalize Int32.toInt wlz = z5 at *
                try generalize Int32.toInt fi = z6 at *
                try generalize Int32.toInt li = z7 at *
                try generalize Int32.toInt (0 : Int32) = z8 at *
                try generalize Int32.toInt k = z9 at *
                try generalize Int32.toInt x = z10 at *
                omega
              have v_838 : ((k + 1)).toInt ≤ (ct x.toNatClampNeg).toInt := by
                have hq9 := hlin k (by omega) (by omega)
                have q_839 := i_le c_91
                have k_840 : (0 : Int32).toInt = 0 := by decide
                have q_841 := i_eq c_92
                have q_842 := i_nle c_519
                try have hq7 := hct x.toNatClampNeg (cl_lt (by omega) (by omega))
                have k_843 : (1 : Int32).toInt = 1 := by decide
                have t_844 := ti_add (a := k) (b := 1) (by omega) (by omega)
                try generalize Int32.toInt (rw (((1800 * x) + (6 * k)) + 2).toNatClampNeg) = z0 at *
                try generalize Int32.toInt (rw ((1800 * x) + (6 * k)).toNatClampNeg) = z1 at *
                try generalize Int32.toInt (ct x.toNatClampNeg) = z2 at *
                try generalize Int32.toInt r_470.2.1 = z3 at *
                try generalize Int32.toInt r_492.2.1 = z4 at *
                try generalize Int32.toInt (k + 1) = z5 at *
                try generalize Int32.toInt wlz = z6 at *
                try generalize Int32.toInt fi = z7 at *
                try generalize Int32.toInt li = z8 at *
                try generalize Int32.toInt (0 : Int32) = z9 at *
                try generalize Int32.toInt (1 : Int32) = z10 at *
                try generalize Int32.toInt k = z11 at *
                try generalize Int32.toInt x = z12 at *
                omega
              have v_845 : 3 * ((ct x.toNatClampNeg).toInt - ((k + 1)).toInt) + (200 - li.toInt) + 1 < ((n : Nat) : Int) := by
                have hq9 := hlin k (by omega) (by omega)
                have q_846 := i_le c_91
                have k_847 : (0 : Int32).toInt = 0 := by decide
                have q_848 := i_eq c_92
                have q_849 := i_nle c_519
                try have hq7 := hct x.toNatClampNeg (cl_lt (by omega) (by omega))
                have k_850 : (1 : Int32).toInt = 1 := by decide
                have t_851 := ti_add (a := k) (b := 1) (by omega) (by omega)
                try generalize Int32.toInt (rw (((1800 * x) + (6 * k)) + 2).toNatClampNeg) = z0 at *
                try generalize Int32.toInt (rw ((1800 * x) + (6 * k)).toNatClampNeg) = z1 at *
                try generalize Int32.toInt (ct x.toNatClampNeg) = z2 at *
                try generalize Int32.toInt r_470.2.1 = z3 at *
                try generalize Int32.toInt r_492.2.1 = z4 at *
                try generalize Int32.toInt (k + 1) = z5 at *
                try generalize Int32.toInt wlz = z6 at *
                try generalize Int32.toInt fi = z7 at *
                try generalize Int32.toInt li = z8 at *
                try generalize Int32.toInt (0 : Int32) = z9 at *
                try generalize Int32.toInt (1 : Int32) = z10 at *
                try generalize Int32.toInt k = z11 at *
                try generalize Int32.toInt x = z12 at *
                omega
              exact ih_48 (li) ((rw (((1800 * x) + (6 * k)) + 1).toNatClampNeg)) (so) (sl) (sc) (nm) (0) ((k + 1)) (r_492.1) (r_492.2.1) (r_492.2.2) _ _ ls hR v_809 v_810 v_811 v_818 v_823 v_828 v_833 v_838 v_845 hP hD hS (lv_sub hl [3, 4, 5, 1, 6, 7, 8, 9, 2, 0] rfl)
        · rw [if_neg c_91] at hR
          refine lv_aload_n hx hb dX9_write_83 rfl (lv_at hl 0 rfl) ?_
          refine lv_bipush (v := 59) hx hb dX9_write_84 (by decide) ?_
          have p_852 : 0 ≤ wlz.toInt := by
            exact hz0
          have p_853 : wlz.toInt ≤ 6000 := by
            exact hz1
          have hPc := hP.sub (ws' := [(h0, .inr (9, [.int 0, .ref a0, .ref a1, .ref a2, .int dc, .ref a3, .int tl, .ref a4, .int xl, .int fo, .int fa, .ref a5, .int mn, .ref a6, .int ftz, .ref a7, .int wlz])), (a7, .inl (cB, 6000, .inl wz))]) [0, 4] rfl
          have hDc := hD.sub (ws' := [(h0, .inr (9, [.int 0, .ref a0, .ref a1, .ref a2, .int dc, .ref a3, .int tl, .ref a4, .int xl, .int fo, .int fa, .ref a5, .int mn, .ref a6, .int ftz, .ref a7, .int wlz])), (a7, .inl (cB, 6000, .inl wz))]) [0, 4] (by decide) rfl
          have hFc := va_free (wc := [(h0, .inr (9, [.int 0, .ref a0, .ref a1, .ref a2, .int dc, .ref a3, .int tl, .ref a4, .int xl, .int fo, .int fa, .ref a5, .int mn, .ref a6, .int ftz, .ref a7, .int wlz])), (a7, .inl (cB, 6000, .inl wz))]) hD hS hA [0, 4] rfl
          refine va_callv (va_runV (As := [.int 59]) (rest := []) ⟨hx, hb, hml, hown, hts⟩ (c_X9_add l dC dI cB cC cI cJ H.size h0 a0 a1 a2 a3 a4 a5 a6 a7 0 dc tl xl fo fa mn ftz wlz wz 59 p_852 p_853) (cwV 1 hts gX9_write_X9_add rfl rfl rfl (by decide +kernel) ⟨(Nat.le_of_ble_eq_true rfl), (Nat.le_of_ble_eq_true rfl)⟩) ⟨cP_blind, va_recv hG.1 hPc (ci := 9) (q0 := 0) rfl rfl, cP_pre hPc hG hDc⟩ rfl rfl hl.1 rfl (lv_room (Nat.le_of_ble_eq_true rfl)) dX9_write_86 ⟨Nat.le_of_ble_eq_true rfl, Nat.le_of_ble_eq_true rfl⟩) hS (fun q _ h => hFc q h) hFc (fun u t H1 locs ht hvm hw hB hz1 hk1 hS => ?_)
          obtain ⟨hP1, hD1⟩ := hB
          rw [ht] at hP1
          generalize hr_854 : fX9_add 0 dc tl xl fo fa mn ftz wlz wz 59 = r_854 at hP1 hD1 hw
          have er_854_0 := hw
          rw [bnd_eq hr_854] at hR
          obtain ⟨hP, hD⟩ := va_join (wr := [(a0, .inl (cI, 3600, .inl rw)), (a1, .inl (cI, 2, .inl ct)), (a4, .inl (cB, 6000, .inl tx))]) (w1 := [(h0, .inr (9, [.int 0, .ref a0, .ref a1, .ref a2, .int dc, .ref a3, .int tl, .ref a4, .int xl, .int fo, .int fa, .ref a5, .int mn, .ref a6, .int r_854.1, .ref a7, .int r_854.2.1])), (a7, .inl (cB, 6000, .inl r_854.2.2))]) hP hD [0, 4] [1, 2, 3] rfl rfl (by decide) (by decide) hk1 hFc hP1 hD1
          generalize H1 = H at hP hS ⊢
          have hP := hP.sub (ws' := [(h0, .inr (9, [.int 0, .ref a0, .ref a1, .ref a2, .int dc, .ref a3, .int tl, .ref a4, .int xl, .int fo, .int fa, .ref a5, .int mn, .ref a6, .int r_854.1, .ref a7, .int r_854.2.1])), (a0, .inl (cI, 3600, .inl rw)), (a1, .inl (cI, 2, .inl ct)), (a4, .inl (cB, 6000, .inl tx)), (a7, .inl (cB, 6000, .inl r_854.2.2))]) [3, 0, 1, 2, 4] rfl
          have hD := hD.sub (ws' := [(h0, .inr (9, [.int 0, .ref a0, .ref a1, .ref a2, .int dc, .ref a3, .int tl, .ref a4, .int xl, .int fo, .int fa, .ref a5, .int mn, .ref a6, .int r_854.1, .ref a7, .int r_854.2.1])), (a0, .inl (cI, 3600, .inl rw)), (a1, .inl (cI, 2, .inl ct)), (a4, .inl (cB, 6000, .inl tx)), (a7, .inl (cB, 6000, .inl r_854.2.2))]) [3, 0, 1, 2, 4] (by decide) rfl
          refine lv_iinc (v := (li + 1)) (lv' := [(2, .int (li + 1)), (0, .ref h0), (1, .int x), (3, .int co), (4, .int so), (5, .int sl), (6, .int sc), (7, .int nm), (8, .int fi), (9, .int k), (10, .int ((1800 * x) + (6 * k)))]) hx hb dX9_write_89 hl (k := 2) rfl rfl (by decide) rfl (fun ls hl => ?_)
          refine lv_iconst (v := 0) hx hb dX9_write_92 (by decide) ?_
          refine lv_istore_n (lv' := [(3, .int 0), (2, .int (li + 1)), (0, .ref h0), (1, .int x), (4, .int so), (5, .int sl), (6, .int sc), (7, .int nm), (8, .int fi), (9, .int k), (10, .int ((1800 * x) + (6 * k)))]) hx hb dX9_write_93 rfl hl (by decide) rfl (fun ls hl => ?_)
          refine lv_iconst (v := 1) hx hb dX9_write_94 (by decide) ?_
          refine lv_istore (lv' := [(8, .int 1), (3, .int 0), (2, .int (li + 1)), (0, .ref h0), (1, .int x), (4, .int so), (5, .int sl), (6, .int sc), (7, .int nm), (9, .int k), (10, .int ((1800 * x) + (6 * k)))]) hx hb dX9_write_95 hl (by decide) rfl (fun ls hl => ?_)
          refine lv_goto (tgt := 72) hx hb dX9_write_97 (by decide) ?_
          have v_856 : 0 ≤ x.toInt := by
            exact hx0
          have v_857 : x.toInt ≤ 1 := by
            exact hx1
          have v_858 : 0 ≤ k.toInt := by
            have hq9 := hlin k (by omega) (by omega)
            have q_859 := i_nle c_91
            try have hq7 := hct x.toNatClampNeg (cl_lt (by omega) (by omega))
            try generalize Int32.toInt (rw ((1800 * x) + (6 * k)).toNatClampNeg) = z0 at *
            try generalize Int32.toInt (ct x.toNatClampNeg) = z1 at *
            try generalize Int32.toInt r_854.2.1 = z2 at *
            try generalize Int32.toInt wlz = z3 at *
            try generalize Int32.toInt li = z4 at *
            try generalize Int32.toInt k = z5 at *
            try generalize Int32.toInt x = z6 at *
            omega
          have v_860 : 0 ≤ ((li + 1)).toInt := by
            have hq9 := hlin k (by omega) (by omega)
            have q_861 := i_nle c_91
            try have hq7 := hct x.toNatClampNeg (cl_lt (by omega) (by omega))
            have k_862 : (1 : Int32).toInt = 1 := by decide
            have t_863 := ti_add (a := li) (b := 1) (by omega) (by omega)
            try generalize Int32.toInt (rw ((1800 * x) + (6 * k)).toNatClampNeg) = z0 at *
            try generalize Int32.toInt (ct x.toNatClampNeg) = z1 at *
            try generalize Int32.toInt r_854.2.1 = z2 at *
            try generalize Int32.toInt (li + 1) = z3 at *
            try generalize Int32.toInt wlz = z4 at *
            try generalize Int32.toInt li = z5 at *
            try generalize Int32.toInt (1 : Int32) = z6 at *
            try generalize Int32.toInt k = z7 at *
            try generalize Int32.toInt x = z8 at *
            omega
          have v_864 : ((li + 1)).toInt ≤ 199 := by
            have hq9 := hlin k (by omega) (by omega)
            have q_865 := i_nle c_91
            try have hq7 := hct x.toNatClampNeg (cl_lt (by omega) (by omega))
            have k_866 : (1 : Int32).toInt = 1 := by decide
            have t_867 := ti_add (a := li) (b := 1) (by omega) (by omega)
            try generalize Int32.toInt (rw ((1800 * x) + (6 * k)).toNatClampNeg) = z0 at *
            try generalize Int32.toInt (ct x.toNatClampNeg) = z1 at *
            try generalize Int32.toInt r_854.2.1 = z2 at *
            try generalize Int32.toInt (li + 1) = z3 at *
            try generalize Int32.toInt wlz = z4 at *
            try generalize Int32.toInt li = z5 at *
            try generalize Int32.toInt (1 : Int32) = z6 at *
            try generalize Int32.toInt k = z7 at *
            try generalize Int32.toInt x = z8 at *
            omega
          have v_868 : 0 ≤ r_854.2.1.toInt := by
            have hq9 := hlin k (by omega) (by omega)
            have q_869 := i_nle c_91
            try have hq7 := hct x.toNatClampNeg (cl_lt (by omega) (by omega))
            try generalize Int32.toInt (rw ((1800 * x) + (6 * k)).toNatClampNeg) = z0 at *
            try generalize Int32.toInt (ct x.toNatClampNeg) = z1 at *
            try generalize Int32.toInt r_854.2.1 = z2 at *
            try generalize Int32.toInt wlz = z3 at *
            try generalize Int32.toInt li = z4 at *
            try generalize Int32.toInt k = z5 at *
            try generalize Int32.toInt x = z6 at *
            omega
          have v_870 : r_854.2.1.toInt ≤ 6000 := by
            have hq9 := hlin k (by omega) (by omega)
            have q_871 := i_nle c_91
            try have hq7 := hct x.toNatClampNeg (cl_lt (by omega) (by omega))
            try generalize Int32.toInt (rw ((1800 * x) + (6 * k)).toNatClampNeg) = z0 at *
            try generalize Int32.toInt (ct x.toNatClampNeg) = z1 at *
            try generalize Int32.toInt r_854.2.1 = z2 at *
            try generalize Int32.toInt wlz = z3 at *
            try generalize Int32.toInt li = z4 at *
            try generalize Int32.toInt k = z5 at *
            try generalize Int32.toInt x = z6 at *
            omega
          have v_872 : k.toInt < (ct x.toNatClampNeg).toInt := by
            have hq9 := hlin k (by omega) (by omega)
            have q_873 := i_nle c_91
            try have hq7 := hct x.toNatClampNeg (cl_lt (by omega) (by omega))
            try generalize Int32.toInt (rw ((1800 * x) + (6 * k)).toNatClampNeg) = z0 at *
            try generalize Int32.toInt (ct x.toNatClampNeg) = z1 at *
            try generalize Int32.toInt r_854.2.1 = z2 at *
            try generalize Int32.toInt wlz = z3 at *
            try generalize Int32.toInt li = z4 at *
            try generalize Int32.toInt k = z5 at *
            try generalize Int32.toInt x = z6 at *
            omega
          have v_874 : 3 * ((ct x.toNatClampNeg).toInt - k.toInt) + (200 - ((li + 1)).toInt) < ((n : Nat) : Int) := by
            have hq9 := hlin k (by omega) (by omega)
            have q_875 := i_nle c_91
            try have hq7 := hct x.toNatClampNeg (cl_lt (by omega) (by omega))
            have k_876 : (1 : Int32).toInt = 1 := by decide
            have t_877 := ti_add (a := li) (b := 1) (by omega) (by omega)
            try generalize Int32.toInt (rw ((1800 * x) + (6 * k)).toNatClampNeg) = z0 at *
            try generalize Int32.toInt (ct x.toNatClampNeg) = z1 at *
            try generalize Int32.toInt r_854.2.1 = z2 at *
            try generalize Int32.toInt (li + 1) = z3 at *
            try generalize Int32.toInt wlz = z4 at *
            try generalize Int32.toInt li = z5 at *
            try generalize Int32.toInt (1 : Int32) = z6 at *
            try generalize Int32.toInt k = z7 at *
            try generalize Int32.toInt x = z8 at *
            omega
          exact ih_72 ((li + 1)) (0) (so) (sl) (sc) (nm) (1) (k) (r_854.1) (r_854.2.1) (r_854.2.2) _ _ ls hR v_856 v_857 v_858 v_860 v_864 v_868 v_870 v_872 v_874 hP hD hS (lv_sub hl [3, 4, 2, 1, 5, 6, 7, 8, 0, 9, 10] rfl)
  have loop_48 := fun n => (loops_A n).1
  have loop_72 := fun n => (loops_A n).2
  refine lv_aload_n hx hb dX9_write_0 rfl (lv_at hl 0 rfl) ?_
  refine lv_iconst (v := 0) hx hb dX9_write_1 (by decide) ?_
  refine va_put (D := (dC, dI)) (ci := 9) (v := .int 0) (ty := .int) (C := RX9) (T := TX9) (N := 17) hx hb hts inc_X9_write_9 tyX9 tyX9_ok nmX9 hown hG.1 hP hD hS 0 rfl rfl 0 (by decide) (hts (.fieldLink RX9 7 "MappingDeskModel" "thrownCode" "I") (by decide +kernel)) (fun _ h9 => h9) rfl (by decide +kernel) rfl rfl (Nat.le_of_ble_eq_true rfl) dX9_write_2 (fun H locs hP hD hS => ?_)
  have hP : va_P (dC, dI) vwCl [(h0, .inr (9, [.int 0, .ref a0, .ref a1, .ref a2, .int dc, .ref a3, .int tl, .ref a4, .int xl, .int fo, .int fa, .ref a5, .int mn, .ref a6, .int ft, .ref a7, .int wl])), (a0, .inl (cI, 3600, .inl rw)), (a1, .inl (cI, 2, .inl ct)), (a4, .inl (cB, 6000, .inl tx)), (a7, .inl (cB, 6000, .inl wr))] H := hP
  have hD : va_D A [(h0, .inr (9, [.int 0, .ref a0, .ref a1, .ref a2, .int dc, .ref a3, .int tl, .ref a4, .int xl, .int fo, .int fa, .ref a5, .int mn, .ref a6, .int ft, .ref a7, .int wl])), (a0, .inl (cI, 3600, .inl rw)), (a1, .inl (cI, 2, .inl ct)), (a4, .inl (cB, 6000, .inl tx)), (a7, .inl (cB, 6000, .inl wr))] := hD
  refine lv_iload_n hx hb dX9_write_5 rfl (lv_at hl 1 rfl) ?_
  refine lv_if_lt (tgt := 14) hx hb dX9_write_6 (by decide) (fun c_878 => ?_) (fun c_878 => ?_)
  · rw [if_pos c_878] at hR
    refine lv_iconst (v := (-1)) hx hb dX9_write_14 (by decide) ?_
    have e_879 : ((-1) : Int32).toInt = -1 ∨ (0 ≤ (xl : Int32).toInt ∧ (xl : Int32).toInt ≤ 6000) := by
      have k_880 : (0 : Int32).toInt = 0 := by decide
      have q_881 := i_lt c_878
      try have hq7 := hct x.toNatClampNeg (cl_lt (by omega) (by omega))
      have k_882 : ((-1) : Int32).toInt = -1 := by decide
      try generalize Int32.toInt (ct x.toNatClampNeg) = z0 at *
      try generalize Int32.toInt ((-1) : Int32) = z1 at *
      try generalize Int32.toInt xl = z2 at *
      try generalize Int32.toInt (0 : Int32) = z3 at *
      try generalize Int32.toInt k = z4 at *
      try generalize Int32.toInt x = z5 at *
      omega
    subst hR
    exact W.iret (v := (-1)) hx hb hr (fun t ht hW => ⟨⟨(-1), (), rfl, ⟨rfl, e_879⟩, by rw [ht]; exact hP, hD⟩, hS.F ht⟩) hS.2.2 dX9_write_15
  · rw [if_neg c_878] at hR
    refine lv_iload_n hx hb dX9_write_9 rfl (lv_at hl 1 rfl) ?_
    refine lv_iconst (v := 1) hx hb dX9_write_10 (by decide) ?_
    refine lv_icmp_le (tgt := 16) hx hb dX9_write_11 (by decide) (fun c_883 => ?_) (fun c_883 => ?_)
    · rw [if_pos c_883] at hR
      refine lv_aload_n hx hb dX9_write_16 rfl (lv_at hl 0 rfl) ?_
      refine lv_iconst (v := 1) hx hb dX9_write_17 (by decide) ?_
      refine va_put (D := (dC, dI)) (ci := 9) (v := .int 1) (ty := .boolean) (C := RX9) (T := TX9) (N := 17) hx hb hts inc_X9_write_9 tyX9 tyX9_ok nmX9 hown hG.1 hP hD hS 0 rfl rfl 14 (by decide) (hts (.fieldLink RX9 55 "MappingDeskModel" "fits" "Z") (by decide +kernel)) (fun _ h9 => h9) rfl (by decide +kernel) rfl rfl (Nat.le_of_ble_eq_true rfl) dX9_write_18 (fun H locs hP hD hS => ?_)
      have hP : va_P (dC, dI) vwCl [(h0, .inr (9, [.int 0, .ref a0, .ref a1, .ref a2, .int dc, .ref a3, .int tl, .ref a4, .int xl, .int fo, .int fa, .ref a5, .int mn, .ref a6, .int 1, .ref a7, .int wl])), (a0, .inl (cI, 3600, .inl rw)), (a1, .inl (cI, 2, .inl ct)), (a4, .inl (cB, 6000, .inl tx)), (a7, .inl (cB, 6000, .inl wr))] H := hP
      have hD : va_D A [(h0, .inr (9, [.int 0, .ref a0, .ref a1, .ref a2, .int dc, .ref a3, .int tl, .ref a4, .int xl, .int fo, .int fa, .ref a5, .int mn, .ref a6, .int 1, .ref a7, .int wl])), (a0, .inl (cI, 3600, .inl rw)), (a1, .inl (cI, 2, .inl ct)), (a4, .inl (cB, 6000, .inl tx)), (a7, .inl (cB, 6000, .inl wr))] := hD
      refine lv_aload_n hx hb dX9_write_21 rfl (lv_at hl 0 rfl) ?_
      refine lv_iconst (v := 0) hx hb dX9_write_22 (by decide) ?_
      refine va_put (D := (dC, dI)) (ci := 9) (v := .int 0) (ty := .int) (C := RX9) (T := TX9) (N := 17) hx hb hts inc_X9_write_9 tyX9 tyX9_ok nmX9 hown hG.1 hP hD hS 0 rfl rfl 16 (by decide) (hts (.fieldLink RX9 62 "MappingDeskModel" "writtenLen" "I") (by decide +kernel)) (fun _ h9 => h9) rfl (by decide +kernel) rfl rfl (Nat.le_of_ble_eq_true rfl) dX9_write_23 (fun H locs hP hD hS => ?_)
      have hP : va_P (dC, dI) vwCl [(h0, .inr (9, [.int 0, .ref a0, .ref a1, .ref a2, .int dc, .ref a3, .int tl, .ref a4, .int xl, .int fo, .int fa, .ref a5, .int mn, .ref a6, .int 1, .ref a7, .int 0])), (a0, .inl (cI, 3600, .inl rw)), (a1, .inl (cI, 2, .inl ct)), (a4, .inl (cB, 6000, .inl tx)), (a7, .inl (cB, 6000, .inl wr))] H := hP
      have hD : va_D A [(h0, .inr (9, [.int 0, .ref a0, .ref a1, .ref a2, .int dc, .ref a3, .int tl, .ref a4, .int xl, .int fo, .int fa, .ref a5, .int mn, .ref a6, .int 1, .ref a7, .int 0])), (a0, .inl (cI, 3600, .inl rw)), (a1, .inl (cI, 2, .inl ct)), (a4, .inl (cB, 6000, .inl tx)), (a7, .inl (cB, 6000, .inl wr))] := hD
      refine lv_iconst (v := 0) hx hb dX9_write_26 (by decide) ?_
      refine lv_istore_n (lv' := [(2, .int 0), (0, .ref h0), (1, .int x)]) hx hb dX9_write_27 rfl hl (by decide) rfl (fun ls hl => ?_)
      refine lv_iconst (v := 0) hx hb dX9_write_28 (by decide) ?_
      refine lv_istore_n (lv' := [(3, .int 0), (2, .int 0), (0, .ref h0), (1, .int x)]) hx hb dX9_write_29 rfl hl (by decide) rfl (fun ls hl => ?_)
      refine lv_iconst (v := 0) hx hb dX9_write_30 (by decide) ?_
      refine lv_istore (lv' := [(4, .int 0), (3, .int 0), (2, .int 0), (0, .ref h0), (1, .int x)]) hx hb dX9_write_31 hl (by decide) rfl (fun ls hl => ?_)
      refine lv_iconst (v := 0) hx hb dX9_write_33 (by decide) ?_
      refine lv_istore (lv' := [(5, .int 0), (4, .int 0), (3, .int 0), (2, .int 0), (0, .ref h0), (1, .int x)]) hx hb dX9_write_34 hl (by decide) rfl (fun ls hl => ?_)
      refine lv_iconst (v := 0) hx hb dX9_write_36 (by decide) ?_
      refine lv_istore (lv' := [(6, .int 0), (5, .int 0), (4, .int 0), (3, .int 0), (2, .int 0), (0, .ref h0), (1, .int x)]) hx hb dX9_write_37 hl (by decide) rfl (fun ls hl => ?_)
      refine lv_iconst (v := 0) hx hb dX9_write_39 (by decide) ?_
      refine lv_istore (lv' := [(7, .int 0), (6, .int 0), (5, .int 0), (4, .int 0), (3, .int 0), (2, .int 0), (0, .ref h0), (1, .int x)]) hx hb dX9_write_40 hl (by decide) rfl (fun ls hl => ?_)
      refine lv_iconst (v := 1) hx hb dX9_write_42 (by decide) ?_
      refine lv_istore (lv' := [(8, .int 1), (7, .int 0), (6, .int 0), (5, .int 0), (4, .int 0), (3, .int 0), (2, .int 0), (0, .ref h0), (1, .int x)]) hx hb dX9_write_43 hl (by decide) rfl (fun ls hl => ?_)
      refine lv_iconst (v := 0) hx hb dX9_write_45 (by decide) ?_
      refine lv_istore (lv' := [(9, .int 0), (8, .int 1), (7, .int 0), (6, .int 0), (5, .int 0), (4, .int 0), (3, .int 0), (2, .int 0), (0, .ref h0), (1, .int x)]) hx hb dX9_write_46 hl (by decide) rfl (fun ls hl => ?_)
      have v_888 : 0 ≤ x.toInt := by
        have k_889 : (0 : Int32).toInt = 0 := by decide
        have q_890 := i_nlt c_878
        have k_891 : (1 : Int32).toInt = 1 := by decide
        have q_892 := i_le c_883
        try have hq7 := hct x.toNatClampNeg (cl_lt (by omega) (by omega))
        try generalize Int32.toInt (ct x.toNatClampNeg) = z0 at *
        try generalize Int32.toInt (0 : Int32) = z1 at *
        try generalize Int32.toInt (1 : Int32) = z2 at *
        try generalize Int32.toInt k = z3 at *
        try generalize Int32.toInt x = z4 at *
        omega
      have v_893 : x.toInt ≤ 1 := by
        have k_894 : (0 : Int32).toInt = 0 := by decide
        have q_895 := i_nlt c_878
        have k_896 : (1 : Int32).toInt = 1 := by decide
        have q_897 := i_le c_883
        try have hq7 := hct x.toNatClampNeg (cl_lt (by omega) (by omega))
        try generalize Int32.toInt (ct x.toNatClampNeg) = z0 at *
        try generalize Int32.toInt (0 : Int32) = z1 at *
        try generalize Int32.toInt (1 : Int32) = z2 at *
        try generalize Int32.toInt k = z3 at *
        try generalize Int32.toInt x = z4 at *
        omega
      have v_898 : 0 ≤ (0 : Int32).toInt := by
        have k_899 : (0 : Int32).toInt = 0 := by decide
        have q_900 := i_nlt c_878
        have k_901 : (1 : Int32).toInt = 1 := by decide
        have q_902 := i_le c_883
        try have hq7 := hct x.toNatClampNeg (cl_lt (by omega) (by omega))
        try generalize Int32.toInt (ct x.toNatClampNeg) = z0 at *
        try generalize Int32.toInt (0 : Int32) = z1 at *
        try generalize Int32.toInt (1 : Int32) = z2 at *
        try generalize Int32.toInt k = z3 at *
        try generalize Int32.toInt x = z4 at *
        omega
      have v_903 : 0 ≤ (0 : Int32).toInt := by
        have k_904 : (0 : Int32).toInt = 0 := by decide
        have q_905 := i_nlt c_878
        have k_906 : (1 : Int32).toInt = 1 := by decide
        have q_907 := i_le c_883
        try have hq7 := hct x.toNatClampNeg (cl_lt (by omega) (by omega))
        try generalize Int32.toInt (ct x.toNatClampNeg) = z0 at *
        try generalize Int32.toInt (0 : Int32) = z1 at *
        try generalize Int32.toInt (1 : Int32) = z2 at *
        try generalize Int32.toInt k = z3 at *
        try generalize Int32.toInt x = z4 at *
        omega
      have v_908 : (0 : Int32).toInt ≤ 199 := by
        have k_909 : (0 : Int32).toInt = 0 := by decide
        have q_910 := i_nlt c_878
        have k_911 : (1 : Int32).toInt = 1 := by decide
        have q_912 := i_le c_883
        try have hq7 := hct x.toNatClampNeg (cl_lt (by omega) (by omega))
        try generalize Int32.toInt (ct x.toNatClampNeg) = z0 at *
        try generalize Int32.toInt (0 : Int32) = z1 at *
        try generalize Int32.toInt (1 : Int32) = z2 at *
        try generalize Int32.toInt k = z3 at *
        try generalize Int32.toInt x = z4 at *
        omega
      have v_913 : 0 ≤ (0 : Int32).toInt := by
        have k_914 : (0 : Int32).toInt = 0 := by decide
        have q_915 := i_nlt c_878
        have k_916 : (1 : Int32).toInt = 1 := by decide
        have q_917 := i_le c_883
        try have hq7 := hct x.toNatClampNeg (cl_lt (by omega) (by omega))
        try generalize Int32.toInt (ct x.toNatClampNeg) = z0 at *
        try generalize Int32.toInt (0 : Int32) = z1 at *
        try generalize Int32.toInt (1 : Int32) = z2 at *
        try generalize Int32.toInt k = z3 at *
        try generalize Int32.toInt x = z4 at *
        omega
      have v_918 : (0 : Int32).toInt ≤ 6000 := by
        have k_919 : (0 : Int32).toInt = 0 := by decide
        have q_920 := i_nlt c_878
        have k_921 : (1 : Int32).toInt = 1 := by decide
        have q_922 := i_le c_883
        try have hq7 := hct x.toNatClampNeg (cl_lt (by omega) (by omega))
        try generalize Int32.toInt (ct x.toNatClampNeg) = z0 at *
        try generalize Int32.toInt (0 : Int32) = z1 at *
        try generalize Int32.toInt (1 : Int32) = z2 at *
        try generalize Int32.toInt k = z3 at *
        try generalize Int32.toInt x = z4 at *
        omega
      have v_923 : (0 : Int32).toInt ≤ (ct x.toNatClampNeg).toInt := by
        have k_924 : (0 : Int32).toInt = 0 := by decide
        have q_925 := i_nlt c_878
        have k_926 : (1 : Int32).toInt = 1 := by decide
        have q_927 := i_le c_883
        try have hq7 := hct x.toNatClampNeg (cl_lt (by omega) (by omega))
        try generalize Int32.toInt (ct x.toNatClampNeg) = z0 at *
        try generalize Int32.toInt (0 : Int32) = z1 at *
        try generalize Int32.toInt (1 : Int32) = z2 at *
        try generalize Int32.toInt k = z3 at *
        try generalize Int32.toInt x = z4 at *
        omega
      have v_928 : 3 * ((ct x.toNatClampNeg).toInt - (0 : Int32).toInt) + (200 - (0 : Int32).toInt) + 1 < ((1110 : Nat) : Int) := by
        have k_929 : (0 : Int32).toInt = 0 := by decide
        have q_930 := i_nlt c_878
        have k_931 : (1 : Int32).toInt = 1 := by decide
        have q_932 := i_le c_883
        try have hq7 := hct x.toNatClampNeg (cl_lt (by omega) (by omega))
        try generalize Int32.toInt (ct x.toNatClampNeg) = z0 at *
        try generalize Int32.toInt (0 : Int32) = z1 at *
        try generalize Int32.toInt (1 : Int32) = z2 at *
        try generalize Int32.toInt k = z3 at *
        try generalize Int32.toInt x = z4 at *
        omega
      exact loop_48 1110 (0) (0) (0) (0) (0) (0) (1) (0) (1) (0) (wr) _ _ ls hR v_888 v_893 v_898 v_903 v_908 v_913 v_918 v_923 v_928 hP hD hS (lv_sub hl [8, 9, 7, 6, 5, 4, 3, 2, 1, 0] rfl)
    · rw [if_neg c_883] at hR
      refine lv_iconst (v := (-1)) hx hb dX9_write_14 (by decide) ?_
      have e_933 : ((-1) : Int32).toInt = -1 ∨ (0 ≤ (xl : Int32).toInt ∧ (xl : Int32).toInt ≤ 6000) := by
        have k_934 : (0 : Int32).toInt = 0 := by decide
        have q_935 := i_nlt c_878
        have k_936 : (1 : Int32).toInt = 1 := by decide
        have q_937 := i_nle c_883
        try have hq7 := hct x.toNatClampNeg (cl_lt (by omega) (by omega))
        have k_938 : ((-1) : Int32).toInt = -1 := by decide
        try generalize Int32.toInt (ct x.toNatClampNeg) = z0 at *
        try generalize Int32.toInt ((-1) : Int32) = z1 at *
        try generalize Int32.toInt xl = z2 at *
        try generalize Int32.toInt (0 : Int32) = z3 at *
        try generalize Int32.toInt (1 : Int32) = z4 at *
        try generalize Int32.toInt k = z5 at *
        try generalize Int32.toInt x = z6 at *
        omega
      subst hR
      exact W.iret (v := (-1)) hx hb hr (fun t ht hW => ⟨⟨(-1), (), rfl, ⟨rfl, e_933⟩, by rw [ht]; exact hP, hD⟩, hS.F ht⟩) hS.2.2 dX9_write_15
