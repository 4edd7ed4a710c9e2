def fX9_write_303 (th dc tl xl fo fa mn ft wl : Int32) (rw : Nat → Int32) (ct : Nat → Int32) (tx : Nat → Int32) (wr : Nat → Int32) (x : Int32) : Nat → Int32 → (Nat → Int32) → Int32 → Int32 → (Nat → Int32) → Int32 × Int32 × Int32 × Int32 × Int32 × (Nat → Int32) × (Nat → Int32)
  | 0, _, _, _, _, _ => (0, 0, 0, 0, 0, (fun _ => 0), (fun _ => 0))
  | n + 1, k, tz, wq, fq, wz =>
    if wq ≤ k then
      (wq, 0, wq, fq, wq, tz, wz)
    else
      fX9_write_303 th dc tl xl fo fa mn ft wl rw ct tx wr x n (k + 1) (upd tz k.toNatClampNeg (vp_nar .byte (wz k.toNatClampNeg))) wq fq wz
def fX9_write_A (th dc tl xl fo fa mn ft wl : Int32) (rw : Nat → Int32) (ct : Nat → Int32) (tx : Nat → Int32) (wr : Nat → Int32) (x : Int32) : Nat → Nat → Int32 → Int32 → Int32 → Int32 → Int32 → Int32 → Int32 → Int32 → Int32 → Int32 → (Nat → Int32) → Int32 × Int32 × Int32 × Int32 × Int32 × (Nat → Int32) × (Nat → Int32)
  | 0, _, _, _, _, _, _, _, _, _, _, _, _ => (0, 0, 0, 0, 0, (fun _ => 0), (fun _ => 0))
  | n + 1, hd, li, co, so, sl, sc, nm, fi, k, ftz, wlz, wz =>
    if hd = 48 then
      if (ct x.toNatClampNeg) ≤ k then
        if ftz = 0 then
          ((-1), 0, xl, ftz, wlz, tx, wz)
        else
          fX9_write_303 th dc tl xl fo fa mn ft wl rw ct tx wr x 6001 0 tx wlz ftz wz
      else
        fX9_write_A th dc tl xl fo fa mn ft wl rw ct tx wr x n 72 li co so sl sc nm fi k ftz wlz wz
    else 
      if (rw ((1800 * x) + (6 * k)).toNatClampNeg) ≤ li then
        if fi = 0 then
          bnd (fX9_add 0 dc tl xl fo fa mn ftz wlz wz 44) fun r_469 =>
          bnd (fX9_addNumber 0 dc tl xl fo fa mn r_469.1 r_469.2.1 r_469.2.2 ((rw (((1800 * x) + (6 * k)) + 1).toNatClampNeg) - co)) fun r_491 =>
          if 0 ≤ (rw (((1800 * x) + (6 * k)) + 2).toNatClampNeg) then
            bnd (fX9_addNumber 0 dc tl xl fo fa mn r_491.1 r_491.2.1 r_491.2.2 ((rw (((1800 * x) + (6 * k)) + 2).toNatClampNeg) - so)) fun r_543 =>
            bnd (fX9_addNumber 0 dc tl xl fo fa mn r_543.1 r_543.2.1 r_543.2.2 ((rw (((1800 * x) + (6 * k)) + 3).toNatClampNeg) - sl)) fun r_568 =>
            bnd (fX9_addNumber 0 dc tl xl fo fa mn r_568.1 r_568.2.1 r_568.2.2 ((rw (((1800 * x) + (6 * k)) + 4).toNatClampNeg) - sc)) fun r_593 =>
            if 0 ≤ (rw (((1800 * x) + (6 * k)) + 5).toNatClampNeg) then
              bnd (fX9_addNumber 0 dc tl xl fo fa mn r_593.1 r_593.2.1 r_593.2.2 ((rw (((1800 * x) + (6 * k)) + 5).toNatClampNeg) - nm)) fun r_678 =>
              fX9_write_A th dc tl xl fo fa mn ft wl rw ct tx wr x n 48 li (rw (((1800 * x) + (6 * k)) + 1).toNatClampNeg) (rw (((1800 * x) + (6 * k)) + 2).toNatClampNeg) (rw (((1800 * x) + (6 * k)) + 3).toNatClampNeg) (rw (((1800 * x) + (6 * k)) + 4).toNatClampNeg) (rw (((1800 * x) + (6 * k)) + 5).toNatClampNeg) 0 (k + 1) r_678.1 r_678.2.1 r_678.2.2
            else
              fX9_write_A th dc tl xl fo fa mn ft wl rw ct tx wr x n 48 li (rw (((1800 * x) + (6 * k)) + 1).toNatClampNeg) (rw (((1800 * x) + (6 * k)) + 2).toNatClampNeg) (rw (((1800 * x) + (6 * k)) + 3).toNatClampNeg) (rw (((1800 * x) + (6 * k)) + 4).toNatClampNeg) nm 0 (k + 1) r_593.1 r_593.2.1 r_593.2.2
          else
            fX9_write_A th dc tl xl fo fa mn ft wl rw ct tx wr x n 48 li (rw (((1800 * x) + (6 * k)) + 1).toNatClampNeg) so sl sc nm 0 (k + 1) r_491.1 r_491.2.1 r_491.2.2
        else
          bnd (fX9_addNumber 0 dc tl xl fo fa mn ftz wlz wz ((rw (((1800 * x) + (6 * k)) + 1).toNatClampNeg) - co)) fun r_107 =>
          if 0 ≤ (rw (((1800 * x) + (6 * k)) + 2).toNatClampNeg) then
            bnd (fX9_addNumber 0 dc tl xl fo fa mn r_107.1 r_107.2.1 r_107.2.2 ((rw (((1800 * x) + (6 * k)) + 2).toNatClampNeg) - so)) fun r_159 =>
            bnd (fX9_addNumber 0 dc tl xl fo fa mn r_159.1 r_159.2.1 r_159.2.2 ((rw (((1800 * x) + (6 * k)) + 3).toNatClampNeg) - sl)) fun r_184 =>
            bnd (fX9_addNumber 0 dc tl xl fo fa mn r_184.1 r_184.2.1 r_184.2.2 ((rw (((1800 * x) + (6 * k)) + 4).toNatClampNeg) - sc)) fun r_209 =>
            if 0 ≤ (rw (((1800 * x) + (6 * k)) + 5).toNatClampNeg) then
              bnd (fX9_addNumber 0 dc tl xl fo fa mn r_209.1 r_209.2.1 r_209.2.2 ((rw (((1800 * x) + (6 * k)) + 5).toNatClampNeg) - nm)) fun r_294 =>
              fX9_write_A th dc tl xl fo fa mn ft wl rw ct tx wr x n 48 li (rw (((1800 * x) + (6 * k)) + 1).toNatClampNeg) (rw (((1800 * x) + (6 * k)) + 2).toNatClampNeg) (rw (((1800 * x) + (6 * k)) + 3).toNatClampNeg) (rw (((1800 * x) + (6 * k)) + 4).toNatClampNeg) (rw (((1800 * x) + (6 * k)) + 5).toNatClampNeg) 0 (k + 1) r_294.1 r_294.2.1 r_294.2.2
            else
              fX9_write_A th dc tl xl fo fa mn ft wl rw ct tx wr x n 48 li (rw (((1800 * x) + (6 * k)) + 1).toNatClampNeg) (rw (((1800 * x) + (6 * k)) + 2).toNatClampNeg) (rw (((1800 * x) + (6 * k)) + 3).toNatClampNeg) (rw (((1800 * x) + (6 * k)) + 4).toNatClampNeg) nm 0 (k + 1) r_209.1 r_209.2.1 r_209.2.2
          else
            fX9_write_A th dc tl xl fo fa mn ft wl rw ct tx wr x n 48 li (rw (((1800 * x) + (6 * k)) + 1).toNatClampNeg) so sl sc nm 0 (k + 1) r_107.1 r_107.2.1 r_107.2.2
      else
        bnd (fX9_add 0 dc tl xl fo fa mn ftz wlz wz 59) fun r_853 =>
        fX9_write_A th dc tl xl fo fa mn ft wl rw ct tx wr x n 72 (li + 1) 0 so sl sc nm 1 k r_853.1 r_853.2.1 r_853.2.2
def fX9_write (th dc tl xl fo fa mn ft wl : Int32) (rw : Nat → Int32) (ct : Nat → Int32) (tx : Nat → Int32) (wr : Nat → Int32) (x : Int32) : Int32 × Int32 × Int32 × Int32 × Int32 × (Nat → Int32) × (Nat → Int32) :=
  if x < 0 then
    ((-1), 0, xl, ft, wl, tx, wr)
  else
    if x ≤ 1 then
      fX9_write_A th dc tl xl fo fa mn ft wl rw ct tx wr x 1110 48 0 0 0 0 0 0 1 0 1 0 wr
    else
      ((-1), 0, xl, ft, wl, tx, wr)
theorem inc_X9_write_9 : ∀ w ∈ u_ws RX9 TX9 17, w ∈ wsX9_write := by decide +kernel
set_option maxHeartbeats 4000000 in
set_option maxRecDepth 100000 in
theorem c_X9_write (l : Launch) (dC : Nat → ClassId) (dI : Nat → Nat → Nat) (cB cC cI cJ : ClassId) (sz : Nat) (h0 a0 a1 a2 a3 a4 a5 a6 a7 : Nat) (th dc tl xl fo fa mn ft wl : Int32) (rw : Nat → Int32) (ct : Nat → Int32) (tx : Nat → Int32) (wr : Nat → Int32) (x : Int32) (hct : ∀ j : Nat, j < 2 → 0 ≤ (ct j).toInt ∧ (ct j).toInt ≤ 300) (hxl0 : 0 ≤ xl.toInt) (hxl1 : xl.toInt ≤ 6000) (hlin : 0 ≤ x.toInt → x.toInt ≤ 1 → ∀ k : Int32, 0 ≤ k.toInt → k.toInt < (ct x.toNatClampNeg).toInt → (rw ((1800 * x) + (6 * k)).toNatClampNeg).toInt ≤ 199) : Met l yX9_write wsX9_write ({ frames := 2, cells := 0, slots := 0, locals := 46 } : Room) (cP dC dI cB cC cI cJ [.ref h0, .int x] sz [(h0, .inr (9, [.int th, .ref a0, .ref a1, .ref a2, .int dc, .ref a3, .int tl, .ref a4, .int xl, .int fo, .int fa, .ref a5, .int mn, .ref a6, .int ft, .ref a7, .int wl])), (a0, .inl (cI, 3600, .inl rw)), (a1, .inl (cI, 2, .inl ct)), (a4, .inl (cB, 6000, .inl tx)), (a7, .inl (cB, 6000, .inl wr))]) (va_Qi (fun r _ => r = (fX9_write th dc tl xl fo fa mn ft wl rw ct tx wr x).1 ∧ (0 ≤ (fX9_write th dc tl xl fo fa mn ft wl rw ct tx wr x).2.2.1.toInt ∧ (fX9_write th dc tl xl fo fa mn ft wl rw ct tx wr x).2.2.1.toInt ≤ 6000)) (cE dC dI (va_A [(h0, .inr (9, [.int th, .ref a0, .ref a1, .ref a2, .int dc, .ref a3, .int tl, .ref a4, .int xl, .int fo, .int fa, .ref a5, .int mn, .ref a6, .int ft, .ref a7, .int wl])), (a0, .inl (cI, 3600, .inl rw)), (a1, .inl (cI, 2, .inl ct)), (a4, .inl (cB, 6000, .inl tx)), (a7, .inl (cB, 6000, .inl wr))] sz) [(h0, .inr (9, [.int (fX9_write th dc tl xl fo fa mn ft wl rw ct tx wr x).2.1, .ref a0, .ref a1, .ref a2, .int dc, .ref a3, .int tl, .ref a4, .int (fX9_write th dc tl xl fo fa mn ft wl rw ct tx wr x).2.2.1, .int fo, .int fa, .ref a5, .int mn, .ref a6, .int (fX9_write th dc tl xl fo fa mn ft wl rw ct tx wr x).2.2.2.1, .ref a7, .int (fX9_write th dc tl xl fo fa mn ft wl rw ct tx wr x).2.2.2.2.1])), (a0, .inl (cI, 3600, .inl rw)), (a1, .inl (cI, 2, .inl ct)), (a4, .inl (cB, 6000, .inl (fX9_write th dc tl xl fo fa mn ft wl rw ct tx wr x).2.2.2.2.2.1)), (a7, .inl (cB, 6000, .inl (fX9_write th dc tl xl fo fa mn ft wl rw ct tx wr x).2.2.2.2.2.2))]) (va_A [(h0, .inr (9, [.int th, .ref a0, .ref a1, .ref a2, .int dc, .ref a3, .int tl, .ref a4, .int xl, .int fo, .int fa, .ref a5, .int mn, .ref a6, .int ft, .ref a7, .int wl])), (a0, .inl (cI, 3600, .inl rw)), (a1, .inl (cI, 2, .inl ct)), (a4, .inl (cB, 6000, .inl tx)), (a7, .inl (cB, 6000, .inl wr))] sz)) 0 0 (va_A [(h0, .inr (9, [.int th, .ref a0, .ref a1, .ref a2, .int dc, .ref a3, .int tl, .ref a4, .int xl, .int fo, .int fa, .ref a5, .int mn, .ref a6, .int ft, .ref a7, .int wl])), (a0, .inl (cI, 3600, .inl rw)), (a1, .inl (cI, 2, .inl ct)), (a4, .inl (cB, 6000, .inl tx)), (a7, .inl (cB, 6000, .inl wr))] sz) := by
  refine Met.ofW (cc := cX9_write) (maxL := 11) (ret := (some .int)) (by decide) rfl ?_
  intro p e s m args below meth c s₁ B hml hv
  obtain ⟨rfl, hsz, hP, hG, hD0⟩ := hv
  have hx := B.exec
  have hb := B.bytes
  have hr := B.returns
  have hts := atoms_spec (ws := wsX9_write) B.pre
  have hown : s.vm.findClass RX9 = some m.cls := findClass_of_methodNamed B.named
  have hlocks := B.notSynchronized
  subst hsz
  have hD := hD0.self (sz := s.heap.size)
  generalize hAe : va_A [(h0, .inr (9, [.int th, .ref a0, .ref a1, .ref a2, .int dc, .ref a3, .int tl, .ref a4, .int xl, .int fo, .int fa, .ref a5, .int mn, .ref a6, .int ft, .ref a7, .int wl])), (a0, .inl (cI, 3600, .inl rw)), (a1, .inl (cI, 2, .inl ct)), (a4, .inl (cB, 6000, .inl tx)), (a7, .inl (cB, 6000, .inl wr))] s.heap.size = A at hD ⊢
  have hA : ∀ q : Nat, s.heap.size ≤ q → A q := fun q h => by rw [← hAe]; exact Or.inr h
  obtain ⟨H, hH⟩ : ∃ H : Heap, H = s.heap := ⟨_, rfl⟩
  have hS : va_S A s.heap H [] := by rw [hH]; exact va_S.rf
  rw [← hH] at hP ⊢
  generalize hR : fX9_write th dc tl xl fo fa mn ft wl rw ct tx wr x = R
  unfold fX9_write at hR
  have hl := lv_entry ([.ref h0, .int x]) (n := 11) (Nat.le_of_ble_eq_true rfl)
  rw [lg_entry_eq]
  generalize (lg_sl ([.ref h0, .int x]) ++ List.replicate (11 - (lg_sl ([.ref h0, .int x])).length) Slot.unset).toArray = ls at hl ⊢
  have hl : lv_has ls 11 [(0, .ref h0), (1, .int x)] := hl
  have loop_303 : ∀ (n : Nat), ∀ (k : Int32) (tz : Nat → Int32) (wq : Int32) (fq : Int32) (wz : Nat → Int32) (H : Heap) (locs : List Loc) (ls : Array Slot), fX9_write_303 th dc tl xl fo fa mn ft wl rw ct tx wr x n k tz wq fq wz = R → (0 ≤ x.toInt) → (x.toInt ≤ 1) → (0 ≤ k.toInt) → (k.toInt ≤ wq.toInt) → (wq.toInt ≤ 6000) → (wq.toInt - k.toInt < ((n : Nat) : Int)) → va_P (dC, dI) vwCl [(h0, .inr (9, [.int 0, .ref a0, .ref a1, .ref a2, .int dc, .ref a3, .int tl, .ref a4, .int wq, .int fo, .int fa, .ref a5, .int mn, .ref a6, .int fq, .ref a7, .int wq])), (a0, .inl (cI, 3600, .inl rw)), (a1, .inl (cI, 2, .inl ct)), (a4, .inl (cB, 6000, .inl tz)), (a7, .inl (cB, 6000, .inl wz))] H → va_D A [(h0, .inr (9, [.int 0, .ref a0, .ref a1, .ref a2, .int dc, .ref a3, .int tl, .ref a4, .int wq, .int fo, .int fa, .ref a5, .int mn, .ref a6, .int fq, .ref a7, .int wq])), (a0, .inl (cI, 3600, .inl rw)), (a1, .inl (cI, 2, .inl ct)), (a4, .inl (cB, 6000, .inl tz)), (a7, .inl (cB, 6000, .inl wz))] → va_S A s.heap H locs → lv_has ls 11 [(0, .ref h0), (1, .int x), (9, .int k)] → W p l e (headSpec wsX9_write ({ frames := 2, cells := 0, slots := 0, locals := 46 } : Room)).room s m ([.ref h0, .int x] : List Value).toArray below meth c H locs 0 0 (MQ below (va_Qi (fun r _ => r = R.1 ∧ (0 ≤ R.2.2.1.toInt ∧ R.2.2.1.toInt ≤ 6000)) (cE dC dI (A) [(h0, .inr (9, [.int R.2.1, .ref a0, .ref a1, .ref a2, .int dc, .ref a3, .int tl, .ref a4, .int R.2.2.1, .int fo, .int fa, .ref a5, .int mn, .ref a6, .int R.2.2.2.1, .ref a7, .int R.2.2.2.2.1])), (a0, .inl (cI, 3600, .inl rw)), (a1, .inl (cI, 2, .inl ct)), (a4, .inl (cB, 6000, .inl R.2.2.2.2.2.1)), (a7, .inl (cB, 6000, .inl R.2.2.2.2.2.2))]) (A)) ([.ref h0, .int x] : List Value).toArray s 0 0 A) (F0 m 303 ls []) := by
    intro n
    induction n with
    | zero => intro k tz wq fq wz H locs ls hR hx0 hx1 hk0 hk1 hq1 hmu; exfalso; omega
    | succ n ih =>
      intro k tz wq fq wz H locs ls hR hx0 hx1 hk0 hk1 hq1 hmu hP hD hS hl
      rw [fX9_write_303] at hR
      refine lv_iload hx hb dX9_write_303 (lv_at hl 2 rfl) ?_
      refine lv_aload_n hx hb dX9_write_305 rfl (lv_at hl 0 rfl) ?_
      refine va_get (D := (dC, dI)) (ci := 9) (v := .int wq) (C := RX9) (T := TX9) (N := 17) hx hb hts inc_X9_write_9 hown hG.1 hP 0 rfl rfl 8 (by decide) (hts (.fieldLink RX9 36 "MappingDeskModel" "textLen" "I") (by decide +kernel)) (fun _ h9 => h9) rfl dX9_write_306 ?_
      refine lv_icmp_ge (tgt := 332) hx hb dX9_write_309 (by decide) (fun c_1 => ?_) (fun c_1 => ?_)
      · rw [if_pos c_1] at hR
        refine lv_aload_n hx hb dX9_write_332 rfl (lv_at hl 0 rfl) ?_
        refine va_get (D := (dC, dI)) (ci := 9) (v := .int wq) (C := RX9) (T := TX9) (N := 17) hx hb hts inc_X9_write_9 hown hG.1 hP 0 rfl rfl 8 (by decide) (hts (.fieldLink RX9 36 "MappingDeskModel" "textLen" "I") (by decide +kernel)) (fun _ h9 => h9) rfl dX9_write_333 ?_
        have e_2 : 0 ≤ (wq : Int32).toInt ∧ (wq : Int32).toInt ≤ 6000 := by
          have q_3 := i_le c_1
          try have hq7 := hct x.toNatClampNeg (cl_lt (by omega) (by omega))
          try generalize Int32.toInt (ct x.toNatClampNeg) = z0 at *
          try generalize Int32.toInt wq = z1 at *
          try generalize Int32.toInt xl = z2 at *
          try generalize Int32.toInt k = z3 at *
          try generalize Int32.toInt x = z4 at *
          omega
        subst hR
        exact W.iret (v := wq) hx hb hr (fun t ht hW => ⟨⟨wq, (), rfl, ⟨rfl, e_2⟩, by rw [ht]; exact hP, hD⟩, hS.F ht⟩) hS.2.2 dX9_write_336
      · rw [if_neg c_1] at hR
        refine lv_aload_n hx hb dX9_write_312 rfl (lv_at hl 0 rfl) ?_
        refine va_get (D := (dC, dI)) (ci := 9) (v := .ref a4) (C := RX9) (T := TX9) (N := 17) hx hb hts inc_X9_write_9 hown hG.1 hP 0 rfl rfl 7 (by decide) (hts (.fieldLink RX9 33 "MappingDeskModel" "text" "[B") (by decide +kernel)) (fun _ h9 => h9) rfl dX9_write_313 ?_
        refine lv_iload hx hb dX9_write_316 (lv_at hl 2 rfl) ?_
        refine lv_aload_n hx hb dX9_write_318 rfl (lv_at hl 0 rfl) ?_
        refine va_get (D := (dC, dI)) (ci := 9) (v := .ref a7) (C := RX9) (T := TX9) (N := 17) hx hb hts inc_X9_write_9 hown hG.1 hP 0 rfl rfl 15 (by decide) (hts (.fieldLink RX9 59 "MappingDeskModel" "written" "[B") (by decide +kernel)) (fun _ h9 => h9) rfl dX9_write_319 ?_
        refine lv_iload hx hb dX9_write_322 (lv_at hl 2 rfl) ?_
        have b_4 : vp_in k 6000 := by
          have q_5 := i_nle c_1
          try have hq7 := hct x.toNatClampNeg (cl_lt (by omega) (by omega))
          refine vin ?_ ?_
          all_goals (try generalize Int32.toInt (ct x.toNatClampNeg) = z0 at *; try generalize Int32.toInt wq = z1 at *; try generalize Int32.toInt xl = z2 at *; try generalize Int32.toInt k = z3 at *; try generalize Int32.toInt x = z4 at *; omega)
        refine va_bald hx hb hG.1 hP 4 0 rfl rfl b_4 dX9_write_324 ?_
        have b_8 : vp_in k 6000 := by
          have q_9 := i_nle c_1
          try have hq7 := hct x.toNatClampNeg (cl_lt (by omega) (by omega))
          refine vin ?_ ?_
          all_goals (try generalize Int32.toInt (ct x.toNatClampNeg) = z0 at *; try generalize Int32.toInt wq = z1 at *; try generalize Int32.toInt xl = z2 at *; try generalize Int32.toInt k = z3 at *; try generalize Int32.toInt x = z4 at *; omega)
        refine va_bast hx hb hG.1 hP hD hS 3 0 rfl rfl b_8 dX9_write_325 (fun H locs hP hD hS => ?_)
        have hP : va_P (dC, dI) vwCl [(h0, .inr (9, [.int 0, .ref a0, .ref a1, .ref a2, .int dc, .ref a3, .int tl, .ref a4, .int wq, .int fo, .int fa, .ref a5, .int mn, .ref a6, .int fq, .ref a7, .int wq])), (a0, .inl (cI, 3600, .inl rw)), (a1, .inl (cI, 2, .inl ct)), (a4, .inl (cB, 6000, .inl (upd tz k.toNatClampNeg (vp_nar .byte (wz k.toNatClampNeg))))), (a7, .inl (cB, 6000, .inl wz))] H := hP
        have hD : va_D A [(h0, .inr (9, [.int 0, .ref a0, .ref a1, .ref a2, .int dc, .ref a3, .int tl, .ref a4, .int wq, .int fo, .int fa, .ref a5, .int mn, .ref a6, .int fq, .ref a7, .int wq])), (a0, .inl (cI, 3600, .inl rw)), (a1, .inl (cI, 2, .inl ct)), (a4, .inl (cB, 6000, .inl (upd tz k.toNatClampNeg (vp_nar .byte (wz k.toNatClampNeg))))), (a7, .inl (cB, 6000, .inl wz))] := hD
        refine lv_iinc (v := (k + 1)) (lv' := [(9, .int (k + 1)), (0, .ref h0), (1, .int x)]) hx hb dX9_write_326 hl (k := 2) rfl rfl (by decide) rfl (fun ls hl => ?_)
        refine lv_goto (tgt := 303) hx hb dX9_write_329 (by decide) ?_
        have v_13 : 0 ≤ x.toInt := by
          first | exact hx0 | assumption
        have v_14 : x.toInt ≤ 1 := by
          first | exact hx1 | assumption
        have v_15 : 0 ≤ ((k + 1)).toInt := by
          have q_16 := i_nle c_1
          try have hq7 := hct x.toNatClampNeg (cl_lt (by omega) (by omega))
          have k_17 : (1 : Int32).toInt = 1 := by decide
          have t_18 := ti_add (a := k) (b := 1) (by omega) (by omega)
          try generalize Int32.toInt (ct x.toNatClampNeg) = z0 at *
          try generalize Int32.toInt (k + 1) = z1 at *
          try generalize Int32.toInt wq = z2 at *
          try generalize Int32.toInt xl = z3 at *
          try generalize Int32.toInt (1 : Int32) = z4 at *
          try generalize Int32.toInt k = z5 at *
          try generalize Int32.toInt x = z6 at *
          omega
        have v_19 : ((k + 1)).toInt ≤ wq.toInt := by
          have q_20 := i_nle c_1
          try have hq7 := hct x.toNatClampNeg (cl_lt (by omega) (by omega))
          have k_21 : (1 : Int32).toInt = 1 := by decide
          have t_22 := ti_add (a := k) (b := 1) (by omega) (by omega)
          try generalize Int32.toInt (ct x.toNatClampNeg) = z0 at *
          try generalize Int32.toInt (k + 1) = z1 at *
          try generalize Int32.toInt wq = z2 at *
          try generalize Int32.toInt xl = z3 at *
          try generalize Int32.toInt (1 : Int32) = z4 at *
          try generalize Int32.toInt k = z5 at *
          try generalize Int32.toInt x = z6 at *
          omega
        have v_23 : wq.toInt ≤ 6000 := by
          have q_24 := i_nle c_1
          try have hq7 := hct x.toNatClampNeg (cl_lt (by omega) (by omega))
          try generalize Int32.toInt (ct x.toNatClampNeg) = z0 at *
          try generalize Int32.toInt wq = z1 at *
          try generalize Int32.toInt xl = z2 at *
          try generalize Int32.toInt k = z3 at *
          try generalize Int32.toInt x = z4 at *
          omega
        have v_25 : wq.toInt - ((k + 1)).toInt < ((n : Nat) : Int) := by
          have q_26 := i_nle c_1
          try have hq7 := hct x.toNatClampNeg (cl_lt (by omega) (by omega))
          have k_27 : (1 : Int32).toInt = 1 := by decide
          have t_28 := ti_add (a := k) (b := 1) (by omega) (by omega)
          try generalize Int32.toInt (ct x.toNatClampNeg) = z0 at *
          try generalize Int32.toInt (k + 1) = z1 at *
          try generalize Int32.toInt wq = z2 at *
          try generalize Int32.toInt xl = z3 at *
          try generalize Int32.toInt (1 : Int32) = z4 at *
          try generalize Int32.toInt k = z5 at *
          try generalize Int32.toInt x = z6 at *
          omega
        exact ih ((k + 1)) ((upd tz k.toNatClampNeg (vp_nar .byte (wz k.toNatClampNeg)))) (wq) (fq) (wz) _ _ ls hR v_13 v_14 v_15 v_19 v_23 v_25 hP hD hS (lv_sub hl [1, 2, 0] rfl)
  have loops_A : ∀ (n : Nat), (∀ (li : Int32) (co : Int32) (so : Int32) (sl : Int32) (sc : Int32) (nm : Int32) (fi : Int32) (k : Int32) (ftz : Int32) (wlz : Int32) (wz : Nat → Int32) (H : Heap) (locs : List Loc) (ls : Array Slot), fX9_write_A th dc tl xl fo fa mn ft wl rw ct tx wr x n 48 li co so sl sc nm fi k ftz wlz wz = R → (0 ≤ x.toInt) → (x.toInt ≤ 1) → (0 ≤ k.toInt) → (0 ≤ li.toInt) → (li.toInt ≤ 199) → (0 ≤ wlz.toInt) → (wlz.toInt ≤ 6000) → (k.toInt ≤ (ct x.toNatClampNeg).toInt) → (3 * ((ct x.toNatClampNeg).toInt - k.toInt) + (200 - li.toInt) + 1 < ((n : Nat) : Int)) → va_P (dC, dI) vwCl [(h0, .inr (9, [.int 0, .ref a0, .ref a1, .ref a2, .int dc, .ref a3, .int tl, .ref a4, .int xl, .int fo, .int fa, .ref a5, .int mn, .ref a6, .int ftz, .ref a7, .int wlz])), (a0, .inl (cI, 3600, .inl rw)), (a1, .inl (cI, 2, .inl ct)), (a4, .inl (cB, 6000, .inl tx)), (a7, .inl (cB, 6000, .inl wz))] H → va_D A [(h0, .inr (9, [.int 0, .ref a0, .ref a1, .ref a2, .int dc, .ref a3, .int tl, .ref a4, .int xl, .int fo, .int fa, .ref a5, .int mn, .ref a6, .int ftz, .ref a7, .int wlz])), (a0, .inl (cI, 3600, .inl rw)), (a1, .inl (cI, 2, .inl ct)), (a4, .inl (cB, 6000, .inl tx)), (a7, .inl (cB, 6000, .inl wz))] → va_S A s.heap H locs → lv_has ls 11 [(0, .ref h0), (1, .int x), (2, .int li), (3, .int co), (4, .int so), (5, .int sl), (6, .int sc), (7, .int nm), (8, .int fi), (9, .int k)] → W p l e (headSpec wsX9_write ({ frames := 2, cells := 0, slots := 0, locals := 46 } : Room)).room s m ([.ref h0, .int x] : List Value).toArray below meth c H locs 0 0 (MQ below (va_Qi (fun r _ => r = R.1 ∧ (0 ≤ R.2.2.1.toInt ∧ R.2.2.1.toInt ≤ 6000)) (cE dC dI (A) [(h0, .inr (9, [.int R.2.1, .ref a0, .ref a1, .ref a2, .int dc, .ref a3, .int tl, .ref a4, .int R.2.2.1, .int fo, .int fa, .ref a5, .int mn, .ref a6, .int R.2.2.2.1, .ref a7, .int R.2.2.2.2.1])), (a0, .inl (cI, 3600, .inl rw)), (a1, .inl (cI, 2, .inl ct)), (a4, .inl (cB, 6000, .inl R.2.2.2.2.2.1)), (a7, .inl (cB, 6000, .inl R.2.2.2.2.2.2))]) (A)) ([.ref h0, .int x] : List Value).toArray s 0 0 A) (F0 m 48 ls [])) ∧ (∀ (li : Int32) (co : Int32) (so : Int32) (sl : Int32) (sc : Int32) (nm : Int32) (fi : Int32) (k : Int32) (ftz : Int32) (wlz : Int32) (wz : Nat → Int32) (H : Heap) (locs : List Loc) (ls : Array Slot), fX9_write_A th dc tl xl fo fa mn ft wl rw ct tx wr x n 72 li co so sl sc nm fi k ftz wlz wz = R → (0 ≤ x.toInt) → (x.toInt ≤ 1) → (0 ≤ k.toInt) → (0 ≤ li.toInt) → (li.toInt ≤ 199) → (0 ≤ wlz.toInt) → (wlz.toInt ≤ 6000) → (k.toInt < (ct x.toNatClampNeg).toInt) → (3 * ((ct x.toNatClampNeg).toInt - k.toInt) + (200 - li.toInt) < ((n : Nat) : Int)) → va_P (dC, dI) vwCl [(h0, .inr (9, [.int 0, .ref a0, .ref a1, .ref a2, .int dc, .ref a3, .int tl, .ref a4, .int xl, .int fo, .int fa, .ref a5, .int mn, .ref a6, .int ftz, .ref a7, .int wlz])), (a0, .inl (cI, 3600, .inl rw)), (a1, .inl (cI, 2, .inl ct)), (a4, .inl (cB, 6000, .inl tx)), (a7, .inl (cB, 6000, .inl wz))] H → va_D A [(h0, .inr (9, [.int 0, .ref a0, .ref a1, .ref a2, .int dc, .ref a3, .int tl, .ref a4, .int xl, .int fo, .int fa, .ref a5, .int mn, .ref a6, .int ftz, .ref a7, .int wlz])), (a0, .inl (cI, 3600, .inl rw)), (a1, .inl (cI, 2, .inl ct)), (a4, .inl (cB, 6000, .inl tx)), (a7, .inl (cB, 6000, .inl wz))] → va_S A s.heap H locs → lv_has ls 11 [(0, .ref h0), (1, .int x), (2, .int li), (3, .int co), (4, .int so), (5, .int sl), (6, .int sc), (7, .int nm), (8, .int fi), (9, .int k), (10, .int ((1800 * x) + (6 * k)))] → W p l e (headSpec wsX9_write ({ frames := 2, cells := 0, slots := 0, locals := 46 } : Room)).room s m ([.ref h0, .int x] : List Value).toArray below meth c H locs 0 0 (MQ below (va_Qi (fun r _ => r = R.1 ∧ (0 ≤ R.2.2.1.toInt ∧ R.2.2.1.toInt ≤ 6000)) (cE dC dI (A) [(h0, .inr (9, [.int R.2.1, .ref a0, .ref a1, .ref a2, .int dc, .ref a3, .int tl, .ref a4, .int R.2.2.1, .int fo, .int fa, .ref a5, .int mn, .ref a6, .int R.2.2.2.1, .ref a7, .int R.2.2.2.2.1])), (a0, .inl (cI, 3600, .inl rw)), (a1, .inl (cI, 2, .inl ct)), (a4, .inl (cB, 6000, .inl R.2.2.2.2.2.1)), (a7, .inl (cB, 6000, .inl R.2.2.2.2.2.2))]) (A)) ([.ref h0, .int x] : List Value).toArray s 0 0 A) (F0 m 72 ls [])) := by
    intro n
    induction n with
    | zero =>
      refine ⟨?_, ?_⟩
      · intro li co so sl sc nm fi k ftz wlz wz H locs ls hR hx0 hx1 hk0 hl0 hl1 hz0 hz1 hk1 hmu; exfalso; omega
      · intro li co so sl sc nm fi k ftz wlz wz H locs ls hR hx0 hx1 hk0 hl0 hl1 hz0 hz1 hk1 hmu; exfalso; omega
    | succ n ih =>
      obtain ⟨ih_48, ih_72⟩ := ih
      refine ⟨?_, ?_⟩
      · intro li co so sl sc nm fi k ftz wlz wz H locs ls hR hx0 hx1 hk0 hl0 hl1 hz0 hz1 hk1 hmu hP hD hS hl
        rw [fX9_write_A] at hR
        rw [if_pos rfl] at hR
        refine lv_iload hx hb dX9_write_48 (lv_at hl 9 rfl) ?_
        refine lv_aload_n hx hb dX9_write_50 rfl (lv_at hl 0 rfl) ?_
        refine va_get (D := (dC, dI)) (ci := 9) (v := .ref a1) (C := RX9) (T := TX9) (N := 17) hx hb hts inc_X9_write_9 hown hG.1 hP 0 rfl rfl 2 (by decide) (hts (.fieldLink RX9 17 "MappingDeskModel" "count" "[I") (by decide +kernel)) (fun _ h9 => h9) rfl dX9_write_51 ?_
        refine lv_iload_n hx hb dX9_write_54 rfl (lv_at hl 1 rfl) ?_
        have b_29 : vp_in x 2 := by
          try have hq7 := hct x.toNatClampNeg (cl_lt (by omega) (by omega))
          refine vin ?_ ?_
          all_goals (try generalize Int32.toInt (ct x.toNatClampNeg) = z0 at *; try generalize Int32.toInt wlz = z1 at *; try generalize Int32.toInt li = z2 at *; try generalize Int32.toInt xl = z3 at *; try generalize Int32.toInt k = z4 at *; try generalize Int32.toInt x = z5 at *; omega)
        refine va_iald hx hb hG.1 hP 2 2 rfl rfl b_29 dX9_write_55 ?_
        refine lv_icmp_ge (tgt := 283) hx hb dX9_write_56 (by decide) (fun c_32 => ?_) (fun c_32 => ?_)
        · rw [if_pos c_32] at hR
          refine lv_aload_n hx hb dX9_write_283 rfl (lv_at hl 0 rfl) ?_
          refine va_get (D := (dC, dI)) (ci := 9) (v := .int ftz) (C := RX9) (T := TX9) (N := 17) hx hb hts inc_X9_write_9 hown hG.1 hP 0 rfl rfl 14 (by decide) (hts (.fieldLink RX9 55 "MappingDeskModel" "fits" "Z") (by decide +kernel)) (fun _ h9 => h9) rfl dX9_write_284 ?_
          refine lv_if_ne (tgt := 292) hx hb dX9_write_287 (by decide) (fun c_33 => ?_) (fun c_33 => ?_)
          · rw [if_neg c_33] at hR
            refine lv_aload_n hx hb dX9_write_292 rfl (lv_at hl 0 rfl) ?_
            refine lv_aload_n hx hb dX9_write_293 rfl (lv_at hl 0 rfl) ?_
            refine va_get (D := (dC, dI)) (ci := 9) (v := .int wlz) (C := RX9) (T := TX9) (N := 17) hx hb hts inc_X9_write_9 hown hG.1 hP 0 rfl rfl 16 (by decide) (hts (.fieldLink RX9 62 "MappingDeskModel" "writtenLen" "I") (by decide +kernel)) (fun _ h9 => h9) rfl dX9_write_294 ?_
            refine va_put (D := (dC, dI)) (ci := 9) (v := .int wlz) (ty := .int) (C := RX9) (T := TX9) (N := 17) hx hb hts inc_X9_write_9 tyX9 tyX9_ok nmX9 hown hG.1 hP hD hS 0 rfl rfl 8 (by decide) (hts (.fieldLink RX9 36 "MappingDeskModel" "textLen" "I") (by decide +kernel)) (fun _ h9 => h9) rfl (by decide +kernel) rfl rfl (Nat.le_of_ble_eq_true rfl) dX9_write_297 (fun H locs hP hD hS => ?_)
            have hP : va_P (dC, dI) vwCl [(h0, .inr (9, [.int 0, .ref a0, .ref a1, .ref a2, .int dc, .ref a3, .int tl, .ref a4, .int wlz, .int fo, .int fa, .ref a5, .int mn, .ref a6, .int ftz, .ref a7, .int wlz])), (a0, .inl (cI, 3600, .inl rw)), (a1, .inl (cI, 2, .inl ct)), (a4, .inl (cB, 6000, .inl tx)), (a7, .inl (cB, 6000, .inl wz))] H := hP
            have hD : va_D A [(h0, .inr (9, [.int 0, .ref a0, .ref a1, .ref a2, .int dc, .ref a3, .int tl, .ref a4, .int wlz, .int fo, .int fa, .ref a5, .int mn, .ref a6, .int ftz, .ref a7, .int wlz])), (a0, .inl (cI, 3600, .inl rw)), (a1, .inl (cI, 2, .inl ct)), (a4, .inl (cB, 6000, .inl tx)), (a7, .inl (cB, 6000, .inl wz))] := hD
            refine lv_iconst (v := 0) hx hb dX9_write_300 (by decide) ?_
            refine lv_istore (lv' := [(9, .int 0), (0, .ref h0), (1, .int x), (2, .int li), (3, .int co), (4, .int so), (5, .int sl), (6, .int sc), (7, .int nm), (8, .int fi)]) hx hb dX9_write_301 hl (by decide) rfl (fun ls hl => ?_)
            have v_37 : 0 ≤ x.toInt := by
              have q_38 := i_le c_32
              have k_39 : (0 : Int32).toInt = 0 := by decide
              have q_40 := i_ne c_33
              try have hq7 := hct x.toNatClampNeg (cl_lt (by omega) (by omega))
              try generalize Int32.toInt (ct x.toNatClampNeg) = z0 at *
              try generalize Int32.toInt ftz = z1 at *
              try generalize Int32.toInt wlz = z2 at *
              try generalize Int32.toInt li = z3 at *
              try generalize Int32.toInt xl = z4 at *
              try generalize Int32.toInt (0 : Int32) = z5 at *
              try generalize Int32.toInt k = z6 at *
              try generalize Int32.toInt x = z7 at *
              omega
            have v_41 : x.toInt ≤ 1 := by
              have q_42 := i_le c_32
              have k_43 : (0 : Int32).toInt = 0 := by decide
              have q_44 := i_ne c_33
              try have hq7 := hct x.toNatClampNeg (cl_lt (by omega) (by omega))
              try generalize Int32.toInt (ct x.toNatClampNeg) = z0 at *
              try generalize Int32.toInt ftz = z1 at *
              try generalize Int32.toInt wlz = z2 at *
              try generalize Int32.toInt li = z3 at *
              try generalize Int32.toInt xl = z4 at *
              try generalize Int32.toInt (0 : Int32) = z5 at *
              try generalize Int32.toInt k = z6 at *
              try generalize Int32.toInt x = z7 at *
              omega
            have v_45 : 0 ≤ (0 : Int32).toInt := by
              have q_46 := i_le c_32
              have k_47 : (0 : Int32).toInt = 0 := by decide
              have q_48 := i_ne c_33
              try have hq7 := hct x.toNatClampNeg (cl_lt (by omega) (by omega))
              try generalize Int32.toInt (ct x.toNatClampNeg) = z0 at *
              try generalize Int32.toInt ftz = z1 at *
              try generalize Int32.toInt wlz = z2 at *
              try generalize Int32.toInt li = z3 at *
              try generalize Int32.toInt xl = z4 at *
              try generalize Int32.toInt (0 : Int32) = z5 at *
              try generalize Int32.toInt k = z6 at *
              try generalize Int32.toInt x = z7 at *
              omega
            have v_49 : (0 : Int32).toInt ≤ wlz.toInt := by
              have q_50 := i_le c_32
              have k_51 : (0 : Int32).toInt = 0 := by decide
              have q_52 := i_ne c_33
              try have hq7 := hct x.toNatClampNeg (cl_lt (by omega) (by omega))
              try generalize Int32.toInt (ct x.toNatClampNeg) = z0 at *
              try generalize Int32.toInt ftz = z1 at *
              try generalize Int32.toInt wlz = z2 at *
              try generalize Int32.toInt li = z3 at *
              try generalize Int32.toInt xl = z4 at *
              try generalize Int32.toInt (0 : Int32) = z5 at *
              try generalize Int32.toInt k = z6 at *
              try generalize Int32.toInt x = z7 at *
              omega
            have v_53 : wlz.toInt ≤ 6000 := by
              have q_54 := i_le c_32
              have k_55 : (0 : Int32).toInt = 0 := by decide
              have q_56 := i_ne c_33
              try have hq7 := hct x.toNatClampNeg (cl_lt (by omega) (by omega))
              try generalize Int32.toInt (ct x.toNatClampNeg) = z0 at *
              try generalize Int32.toInt ftz = z1 at *
              try generalize Int32.toInt wlz = z2 at *
              try generalize Int32.toInt li = z3 at *
              try generalize Int32.toInt xl = z4 at *
              try generalize Int32.toInt (0 : Int32) = z5 at *
              try generalize Int32.toInt k = z6 at *
              try generalize Int32.toInt x = z7 at *
              omega
            have v_57 : wlz.toInt - (0 : Int32).toInt < ((6001 : Nat) : Int) := by
              have q_58 := i_le c_32
              have k_59 : (0 : Int32).toInt = 0 := by decide
              have q_60 := i_ne c_33
              try have hq7 := hct x.toNatClampNeg (cl_lt (by omega) (by omega))
              try generalize Int32.toInt (ct x.toNatClampNeg) = z0 at *
              try generalize Int32.toInt ftz = z1 at *
              try generalize Int32.toInt wlz = z2 at *
              try generalize Int32.toInt li = z3 at *
              try generalize Int32.toInt xl = z4 at *
              try generalize Int32.toInt (0 : Int32) = z5 at *
              try generalize Int32.toInt k = z6 at *
              try generalize Int32.toInt x = z7 at *
              omega
            exact loop_303 6001 (0) (tx) (wlz) (ftz) (wz) _ _ ls hR v_37 v_41 v_45 v_49 v_53 v_57 hP hD hS (lv_sub hl [1, 2, 0] rfl)
          · rw [if_pos c_33] at hR
            refine lv_iconst (v := (-1)) hx hb dX9_write_290 (by decide) ?_
            have e_61 : 0 ≤ (xl : Int32).toInt ∧ (xl : Int32).toInt ≤ 6000 := by
              have q_62 := i_le c_32
              have k_63 : (0 : Int32).toInt = 0 := by decide
              have q_64 := i_eq c_33
              try have hq7 := hct x.toNatClampNeg (cl_lt (by omega) (by omega))
              try generalize Int32.toInt (ct x.toNatClampNeg) = z0 at *
              try generalize Int32.toInt ftz = z1 at *
              try generalize Int32.toInt wlz = z2 at *
              try generalize Int32.toInt li = z3 at *
              try generalize Int32.toInt xl = z4 at *
              try generalize Int32.toInt (0 : Int32) = z5 at *
              try generalize Int32.toInt k = z6 at *
              try generalize Int32.toInt x = z7 at *
              omega
            subst hR
            exact W.iret (v := (-1)) hx hb hr (fun t ht hW => ⟨⟨(-1), (), rfl, ⟨rfl, e_61⟩, by rw [ht]; exact hP, hD⟩, hS.F ht⟩) hS.2.2 dX9_write_291
        · rw [if_neg c_32] at hR
          refine lv_sipush (v := 1800) hx hb dX9_write_59 (by decide) ?_
          refine lv_iload_n hx hb dX9_write_62 rfl (lv_at hl 1 rfl) ?_
          refine lv_imul hx hb dX9_write_63 ?_
          refine lv_bipush (v := 6) hx hb dX9_write_64 (by decide) ?_
          refine lv_iload hx hb dX9_write_66 (lv_at hl 9 rfl) ?_
          refine lv_imul hx hb dX9_write_68 ?_
          refine lv_iadd hx hb dX9_write_69 ?_
          refine lv_istore (lv' := [(10, .int ((1800 * x) + (6 * k))), (0, .ref h0), (1, .int x), (2, .int li), (3, .int co), (4, .int so), (5, .int sl), (6, .int sc), (7, .int nm), (8, .int fi), (9, .int k)]) hx hb dX9_write_70 hl (by decide) rfl (fun ls hl => ?_)
          have v_66 : 0 ≤ x.toInt := by
            first | exact hx0 | assumption
          have v_67 : x.toInt ≤ 1 := by
            first | exact hx1 | assumption
          have v_68 : 0 ≤ k.toInt := by
            have q_69 := i_nle c_32
            try have hq7 := hct x.toNatClampNeg (cl_lt (by omega) (by omega))
            try generalize Int32.toInt (ct x.toNatClampNeg) = z0 at *
            try generalize Int32.toInt wlz = z1 at *
            try generalize Int32.toInt li = z2 at *
            try generalize Int32.toInt xl = z3 at *
            try generalize Int32.toInt k = z4 at *
            try generalize Int32.toInt x = z5 at *
            omega
          have v_70 : 0 ≤ li.toInt := by
            have q_71 := i_nle c_32
            try have hq7 := hct x.toNatClampNeg (cl_lt (by omega) (by omega))
            try generalize Int32.toInt (ct x.toNatClampNeg) = z0 at *
            try generalize Int32.toInt wlz = z1 at *
            try generalize Int32.toInt li = z2 at *
            try generalize Int32.toInt xl = z3 at *
            try generalize Int32.toInt k = z4 at *
            try generalize Int32.toInt x = z5 at *
            omega
          have v_72 : li.toInt ≤ 199 := by
            have q_73 := i_nle c_32
            try have hq7 := hct x.toNatClampNeg (cl_lt (by omega) (by omega))
            try generalize Int32.toInt (ct x.toNatClampNeg) = z0 at *
            try generalize Int32.toInt wlz = z1 at *
            try generalize Int32.toInt li = z2 at *
            try generalize Int32.toInt xl = z3 at *
            try generalize Int32.toInt k = z4 at *
            try generalize Int32.toInt x = z5 at *
            omega
          have v_74 : 0 ≤ wlz.toInt := by
            have q_75 := i_nle c_32
            try have hq7 := hct x.toNatClampNeg (cl_lt (by omega) (by omega))
            try generalize Int32.toInt (ct x.toNatClampNeg) = z0 at *
            try generalize Int32.toInt wlz = z1 at *
            try generalize Int32.toInt li = z2 at *
            try generalize Int32.toInt xl = z3 at *
            try generalize Int32.toInt k = z4 at *
            try generalize Int32.toInt x = z5 at *
            omega
          have v_76 : wlz.toInt ≤ 6000 := by
            have q_77 := i_nle c_32
            try have hq7 := hct x.toNatClampNeg (cl_lt (by omega) (by omega))
            try generalize Int32.toInt (ct x.toNatClampNeg) = z0 at *
            try generalize Int32.toInt wlz = z1 at *
            try generalize Int32.toInt li = z2 at *
            try generalize Int32.toInt xl = z3 at *
            try generalize Int32.toInt k = z4 at *
            try generalize Int32.toInt x = z5 at *
            omega
          have v_78 : k.toInt < (ct x.toNatClampNeg).toInt := by
            have q_79 := i_nle c_32
            try have hq7 := hct x.toNatClampNeg (cl_lt (by omega) (by omega))
            try generalize Int32.toInt (ct x.toNatClampNeg) = z0 at *
            try generalize Int32.toInt wlz = z1 at *
            try generalize Int32.toInt li = z2 at *
            try generalize Int32.toInt xl = z3 at *
            try generalize Int32.toInt k = z4 at *
            try generalize Int32.toInt x = z5 at *
            omega
          have v_80 : 3 * ((ct x.toNatClampNeg).toInt - k.toInt) + (200 - li.toInt) < ((n : Nat) : Int) := by
            have q_81 := i_nle c_32
            try have hq7 := hct x.toNatClampNeg (cl_lt (by omega) (by omega))
            try generalize Int32.toInt (ct x.toNatClampNeg) = z0 at *
            try generalize Int32.toInt wlz = z1 at *
            try generalize Int32.toInt li = z2 at *
            try generalize Int32.toInt xl = z3 at *
            try generalize Int32.toInt k = z4 at *
            try generalize Int32.toInt x = z5 at *
            omega
          exact ih_72 (li) (co) (so) (sl) (sc) (nm) (fi) (k) (ftz) (wlz) (wz) _ _ ls hR v_66 v_67 v_68 v_70 v_72 v_74 v_76 v_78 v_80 hP hD hS (lv_sub hl [1, 2, 3, 4, 5, 6, 7, 8, 9, 10, 0] rfl)
      · intro li co so sl sc nm fi k ftz wlz wz H locs ls hR hx0 hx1 hk0 hl0 hl1 hz0 hz1 hk1 hmu hP hD hS hl
        rw [fX9_write_A] at hR
        rw [if_neg (by decide)] at hR
        refine lv_iload_n hx hb dX9_write_72 rfl (lv_at hl 2 rfl) ?_
        refine lv_aload_n hx hb dX9_write_73 rfl (lv_at hl 0 rfl) ?_
        refine va_get (D := (dC, dI)) (ci := 9) (v := .ref a0) (C := RX9) (T := TX9) (N := 17) hx hb hts inc_X9_write_9 hown hG.1 hP 0 rfl rfl 1 (by decide) (hts (.fieldLink RX9 13 "MappingDeskModel" "rows" "[I") (by decide +kernel)) (fun _ h9 => h9) rfl dX9_write_74 ?_
        refine lv_iload hx hb dX9_write_77 (lv_at hl 10 rfl) ?_
        have b_82 : vp_in ((1800 * x) + (6 * k)) 3600 := by
          try have hq7 := hct x.toNatClampNeg (cl_lt (by omega) (by omega))
          have k_83 : (1800 : Int32).toInt = 1800 := by decide
          have t_84 : ((1800 * x)).toInt = 1800 * (x).toInt := by
            have z := ti_mul (a := 1800) (b := x) (by rw [show (1800 : Int32).toInt = 1800 from by decide]; omega) (by rw [show (1800 : Int32).toInt = 1800 from by decide]; omega)
            rw [z, show (1800 : Int32).toInt = 1800 from by decide]
          have k_85 : (6 : Int32).toInt = 6 := by decide
          have t_86 : ((6 * k)).toInt = 6 * (k).toInt := by
            have z := ti_mul (a := 6) (b := k) (by rw [show (6 : Int32).toInt = 6 from by decide]; omega) (by rw [show (6 : Int32).toInt = 6 from by decide]; omega)
            rw [z, show (6 : Int32).toInt = 6 from by decide]
          have t_87 := ti_add (a := (1800 * x)) (b := (6 * k)) (by omega) (by omega)
          refine vin ?_ ?_
          all_goals (try generalize Int32.toInt ((1800 * x) + (6 * k)) = z0 at *; try generalize Int32.toInt (ct x.toNatClampNeg) = z1 at *; try generalize Int32.toInt (1800 * x) = z2 at *; try generalize Int32.toInt (6 * k) = z3 at *; try generalize Int32.toInt (1800 : Int32) = z4 at *; try generalize Int32.toInt wlz = z5 at *; try generalize Int32.toInt li = z6 at *; try generalize Int32.toInt xl = z7 at *; try generalize Int32.toInt (6 : Int32) = z8 at *; try generalize Int32.toInt k = z9 at *; try generalize Int32.toInt x = z10 at *; omega)
        refine va_iald hx hb hG.1 hP 1 2 rfl rfl b_82 dX9_write_79 ?_
        refine lv_icmp_ge (tgt := 100) hx hb dX9_write_80 (by decide) (fun c_90 => ?_) (fun c_90 => ?_)
        · rw [if_pos c_90] at hR
          refine lv_iload hx hb dX9_write_100 (lv_at hl 8 rfl) ?_
          refine lv_if_ne (tgt := 111) hx hb dX9_write_102 (by decide) (fun c_91 => ?_) (fun c_91 => ?_)
          · rw [if_neg c_91] at hR
            refine lv_iconst (v := 0) hx hb dX9_write_111 (by decide) ?_
            refine lv_istore (lv' := [(8, .int 0), (0, .ref h0), (1, .int x), (2, .int li), (3, .int co), (4, .int so), (5, .int sl), (6, .int sc), (7, .int nm), (9, .int k), (10, .int ((1800 * x) + (6 * k)))]) hx hb dX9_write_112 hl (by decide) rfl (fun ls hl => ?_)
            refine lv_aload_n hx hb dX9_write_114 rfl (lv_at hl 1 rfl) ?_
            refine lv_aload_n hx hb dX9_write_115 rfl (lv_at hl 1 rfl) ?_
            refine va_get (D := (dC, dI)) (ci := 9) (v := .ref a0) (C := RX9) (T := TX9) (N := 17) hx hb hts inc_X9_write_9 hown hG.1 hP 0 rfl rfl 1 (by decide) (hts (.fieldLink RX9 13 "MappingDeskModel" "rows" "[I") (by decide +kernel)) (fun _ h9 => h9) rfl dX9_write_116 ?_
            refine lv_iload hx hb dX9_write_119 (lv_at hl 10 rfl) ?_
            refine lv_iconst (v := 1) hx hb dX9_write_121 (by decide) ?_
            refine lv_iadd hx hb dX9_write_122 ?_
            have b_92 : vp_in (((1800 * x) + (6 * k)) + 1) 3600 := by
              have hq9 := hlin (by omega) (by omega) k (by omega) (by omega)
              have q_93 := i_le c_90
              have k_94 : (0 : Int32).toInt = 0 := by decide
              have q_95 := i_ne c_91
              try have hq7 := hct x.toNatClampNeg (cl_lt (by omega) (by omega))
              have k_96 : (1800 : Int32).toInt = 1800 := by decide
              have t_97 : ((1800 * x)).toInt = 1800 * (x).toInt := by
                have z := ti_mul (a := 1800) (b := x) (by rw [show (1800 : Int32).toInt = 1800 from by decide]; omega) (by rw [show (1800 : Int32).toInt = 1800 from by decide]; omega)
                rw [z, show (1800 : Int32).toInt = 1800 from by decide]
              have k_98 : (6 : Int32).toInt = 6 := by decide
              have t_99 : ((6 * k)).toInt = 6 * (k).toInt := by
                have z := ti_mul (a := 6) (b := k) (by rw [show (6 : Int32).toInt = 6 from by decide]; omega) (by rw [show (6 : Int32).toInt = 6 from by decide]; omega)
                rw [z, show (6 : Int32).toInt = 6 from by decide]
              have t_100 := ti_add (a := (1800 * x)) (b := (6 * k)) (by omega) (by omega)
              have k_101 : (1 : Int32).toInt = 1 := by decide
              have t_102 := ti_add (a := ((1800 * x) + (6 * k))) (b := 1) (by omega) (by omega)
              refine vin ?_ ?_
              all_goals (try generalize Int32.toInt (rw ((1800 * x) + (6 * k)).toNatClampNeg) = z0 at *; try generalize Int32.toInt (((1800 * x) + (6 * k)) + 1) = z1 at *; try generalize Int32.toInt ((1800 * x) + (6 * k)) = z2 at *; try generalize Int32.toInt (ct x.toNatClampNeg) = z3 at *; try generalize Int32.toInt (1800 * x) = z4 at *; try generalize Int32.toInt (6 * k) = z5 at *; try generalize Int32.toInt (1800 : Int32) = z6 at *; try generalize Int32.toInt wlz = z7 at *; try generalize Int32.toInt fi = z8 at *; try generalize Int32.toInt li = z9 at *; try generalize Int32.toInt xl = z10 at *; try generalize Int32.toInt (0 : Int32) = z11 at *; try generalize Int32.toInt (1 : Int32) = z12 at *; try generalize Int32.toInt (6 : Int32) = z13 at *; try generalize Int32.toInt k = z14 at *; try generalize Int32.toInt x = z15 at *; omega)
            refine va_iald hx hb hG.1 hP 1 2 rfl rfl b_92 dX9_write_123 ?_
            refine lv_iload_n hx hb dX9_write_124 rfl (lv_at hl 4 rfl) ?_
            refine lv_isub hx hb dX9_write_125 ?_
            have p_105 : 0 ≤ wlz.toInt := by
              first | exact hz0 | assumption
            have p_106 : wlz.toInt ≤ 6000 := by
              first | exact hz1 | assumption
            have hPc := hP.sub (ws' := [(h0, .inr (9, [.int 0, .ref a0, .ref a1, .ref a2, .int dc, .ref a3, .int tl, .ref a4, .int xl, .int fo, .int fa, .ref a5, .int mn, .ref a6, .int ftz, .ref a7, .int wlz])), (a7, .inl (cB, 6000, .inl wz))]) [0, 4] rfl
            have hDc := hD.sub (ws' := [(h0, .inr (9, [.int 0, .ref a0, .ref a1, .ref a2, .int dc, .ref a3, .int tl, .ref a4, .int xl, .int fo, .int fa, .ref a5, .int mn, .ref a6, .int ftz, .ref a7, .int wlz])), (a7, .inl (cB, 6000, .inl wz))]) [0, 4] (by decide) rfl
            have hFc := va_free (wc := [(h0, .inr (9, [.int 0, .ref a0, .ref a1, .ref a2, .int dc, .ref a3, .int tl, .ref a4, .int xl, .int fo, .int fa, .ref a5, .int mn, .ref a6, .int ftz, .ref a7, .int wlz])), (a7, .inl (cB, 6000, .inl wz))]) hD hS hA [0, 4] rfl
            refine va_callv (va_runV (As := [.int ((rw (((1800 * x) + (6 * k)) + 1).toNatClampNeg) - co)]) (rest := []) ⟨hx, hb, hml, hown, hts⟩ (c_X9_addNumber l dC dI cB cC cI cJ H.size h0 a0 a1 a2 a3 a4 a5 a6 a7 0 dc tl xl fo fa mn ftz wlz wz ((rw (((1800 * x) + (6 * k)) + 1).toNatClampNeg) - co) p_105 p_106) (cwV 1 hts gX9_write_X9_addNumber rfl rfl rfl (by decide +kernel) ⟨(Nat.le_of_ble_eq_true rfl), (Nat.le_of_ble_eq_true rfl)⟩) ⟨cP_blind, va_recv hG.1 hPc (ci := 9) (q0 := 0) rfl rfl, cP_pre hPc hG hDc⟩ rfl rfl hl.1 rfl (lv_room (Nat.le_of_ble_eq_true rfl)) dX9_write_126 ⟨Nat.le_of_ble_eq_true rfl, Nat.le_of_ble_eq_true rfl⟩) hS (fun q _ h => hFc q h) hFc (fun u t H1 locs ht hvm hw hB hz1 hk1 hS => ?_)
            obtain ⟨hP1, hD1⟩ := hB
            rw [ht] at hP1
            generalize hr_107 : fX9_addNumber 0 dc tl xl fo fa mn ftz wlz wz ((rw (((1800 * x) + (6 * k)) + 1).toNatClampNeg) - co) = r_107 at hP1 hD1 hw
            have er_107_0 := hw
            rw [bnd_eq hr_107] at hR
            obtain ⟨hP, hD⟩ := va_join (wr := [(a0, .inl (cI, 3600, .inl rw)), (a1, .inl (cI, 2, .inl ct)), (a4, .inl (cB, 6000, .inl tx))]) (w1 := [(h0, .inr (9, [.int 0, .ref a0, .ref a1, .ref a2, .int dc, .ref a3, .int tl, .ref a4, .int xl, .int fo, .int fa, .ref a5, .int mn, .ref a6, .int r_107.1, .ref a7, .int r_107.2.1])), (a7, .inl (cB, 6000, .inl r_107.2.2))]) hP hD [0, 4] [1, 2, 3] rfl rfl (by decide) (by decide) hk1 hFc hP1 hD1
            generalize H1 = H at hP hS ⊢
            have hP := hP.sub (ws' := [(h0, .inr (9, [.int 0, .ref a0, .ref a1, .ref a2, .int dc, .ref a3, .int tl, .ref a4, .int xl, .int fo, .int fa, .ref a5, .int mn, .ref a6, .int r_107.1, .ref a7, .int r_107.2.1])), (a0, .inl (cI, 3600, .inl rw)), (a1, .inl (cI, 2, .inl ct)), (a4, .inl (cB, 6000, .inl tx)), (a7, .inl (cB, 6000, .inl r_107.2.2))]) [3, 0, 1, 2, 4] rfl
            have hD := hD.sub (ws' := [(h0, .inr (9, [.int 0, .ref a0, .ref a1, .ref a2, .int dc, .ref a3, .int tl, .ref a4, .int xl, .int fo, .int fa, .ref a5, .int mn, .ref a6, .int r_107.1, .ref a7, .int r_107.2.1])), (a0, .inl (cI, 3600, .inl rw)), (a1, .inl (cI, 2, .inl ct)), (a4, .inl (cB, 6000, .inl tx)), (a7, .inl (cB, 6000, .inl r_107.2.2))]) [3, 0, 1, 2, 4] (by decide) rfl
            refine lv_aload_n hx hb dX9_write_129 rfl (lv_at hl 1 rfl) ?_
            refine va_get (D := (dC, dI)) (ci := 9) (v := .ref a0) (C := RX9) (T := TX9) (N := 17) hx hb hts inc_X9_write_9 hown hG.1 hP 0 rfl rfl 1 (by decide) (hts (.fieldLink RX9 13 "MappingDeskModel" "rows" "[I") (by decide +kernel)) (fun _ h9 => h9) rfl dX9_write_130 ?_
            refine lv_iload hx hb dX9_write_133 (lv_at hl 10 rfl) ?_
            refine lv_iconst (v := 1) hx hb dX9_write_135 (by decide) ?_
            refine lv_iadd hx hb dX9_write_136 ?_
            have b_108 : vp_in (((1800 * x) + (6 * k)) + 1) 3600 := by
              have hq9 := hlin (by omega) (by omega) k (by omega) (by omega)
              have q_109 := i_le c_90
              have k_110 : (0 : Int32).toInt = 0 := by decide
              have q_111 := i_ne c_91
              try have hq7 := hct x.toNatClampNeg (cl_lt (by omega) (by omega))
              have k_112 : (1800 : Int32).toInt = 1800 := by decide
              have t_113 : ((1800 * x)).toInt = 1800 * (x).toInt := by
                have z := ti_mul (a := 1800) (b := x) (by rw [show (1800 : Int32).toInt = 1800 from by decide]; omega) (by rw [show (1800 : Int32).toInt = 1800 from by decide]; omega)
                rw [z, show (1800 : Int32).toInt = 1800 from by decide]
              have k_114 : (6 : Int32).toInt = 6 := by decide
              have t_115 : ((6 * k)).toInt = 6 * (k).toInt := by
                have z := ti_mul (a := 6) (b := k) (by rw [show (6 : Int32).toInt = 6 from by decide]; omega) (by rw [show (6 : Int32).toInt = 6 from by decide]; omega)
                rw [z, show (6 : Int32).toInt = 6 from by decide]
              have t_116 := ti_add (a := (1800 * x)) (b := (6 * k)) (by omega) (by omega)
              have k_117 : (1 : Int32).toInt = 1 := by decide
              have t_118 := ti_add (a := ((1800 * x) + (6 * k))) (b := 1) (by omega) (by omega)
              refine vin ?_ ?_
              all_goals (try generalize Int32.toInt (rw ((1800 * x) + (6 * k)).toNatClampNeg) = z0 at *; try generalize Int32.toInt (((1800 * x) + (6 * k)) + 1) = z1 at *; try generalize Int32.toInt ((1800 * x) + (6 * k)) = z2 at *; try generalize Int32.toInt (ct x.toNatClampNeg) = z3 at *; try generalize Int32.toInt (1800 * x) = z4 at *; try generalize Int32.toInt r_107.2.1 = z5 at *; try generalize Int32.toInt (6 * k) = z6 at *; try generalize Int32.toInt (1800 : Int32) = z7 at *; try generalize Int32.toInt wlz = z8 at *; try generalize Int32.toInt fi = z9 at *; try generalize Int32.toInt li = z10 at *; try generalize Int32.toInt xl = z11 at *; try generalize Int32.toInt (0 : Int32) = z12 at *; try generalize Int32.toInt (1 : Int32) = z13 at *; try generalize Int32.toInt (6 : Int32) = z14 at *; try generalize Int32.toInt k = z15 at *; try generalize Int32.toInt x = z16 at *; omega)
            refine va_iald hx hb hG.1 hP 1 2 rfl rfl b_108 dX9_write_137 ?_
            refine lv_istore_n (lv' := [(3, .int (rw (((1800 * x) + (6 * k)) + 1).toNatClampNeg)), (8, .int 0), (0, .ref h0), (1, .int x), (2, .int li), (4, .int so), (5, .int sl), (6, .int sc), (7, .int nm), (9, .int k), (10, .int ((1800 * x) + (6 * k)))]) hx hb dX9_write_138 rfl hl (by decide) rfl (fun ls hl => ?_)
            refine lv_aload_n hx hb dX9_write_139 rfl (lv_at hl 2 rfl) ?_
            refine va_get (D := (dC, dI)) (ci := 9) (v := .ref a0) (C := RX9) (T := TX9) (N := 17) hx hb hts inc_X9_write_9 hown hG.1 hP 0 rfl rfl 1 (by decide) (hts (.fieldLink RX9 13 "MappingDeskModel" "rows" "[I") (by decide +kernel)) (fun _ h9 => h9) rfl dX9_write_140 ?_
            refine lv_iload hx hb dX9_write_143 (lv_at hl 10 rfl) ?_
            refine lv_iconst (v := 2) hx hb dX9_write_145 (by decide) ?_
            refine lv_iadd hx hb dX9_write_146 ?_
            have b_121 : vp_in (((1800 * x) + (6 * k)) + 2) 3600 := by
              have hq9 := hlin (by omega) (by omega) k (by omega) (by omega)
              have q_122 := i_le c_90
              have k_123 : (0 : Int32).toInt = 0 := by decide
              have q_124 := i_ne c_91
              try have hq7 := hct x.toNatClampNeg (cl_lt (by omega) (by omega))
              have k_125 : (1800 : Int32).toInt = 1800 := by decide
              have t_126 : ((1800 * x)).toInt = 1800 * (x).toInt := by
                have z := ti_mul (a := 1800) (b := x) (by rw [show (1800 : Int32).toInt = 1800 from by decide]; omega) (by rw [show (1800 : Int32).toInt = 1800 from by decide]; omega)
                rw [z, show (1800 : Int32).toInt = 1800 from by decide]
              have k_127 : (6 : Int32).toInt = 6 := by decide
              have t_128 : ((6 * k)).toInt = 6 * (k).toInt := by
                have z := ti_mul (a := 6) (b := k) (by rw [show (6 : Int32).toInt = 6 from by decide]; omega) (by rw [show (6 : Int32).toInt = 6 from by decide]; omega)
                rw [z, show (6 : Int32).toInt = 6 from by decide]
              have t_129 := ti_add (a := (1800 * x)) (b := (6 * k)) (by omega) (by omega)
              have k_130 : (2 : Int32).toInt = 2 := by decide
              have t_131 := ti_add (a := ((1800 * x) + (6 * k))) (b := 2) (by omega) (by omega)
              refine vin ?_ ?_
              all_goals (try generalize Int32.toInt (rw ((1800 * x) + (6 * k)).toNatClampNeg) = z0 at *; try generalize Int32.toInt (((1800 * x) + (6 * k)) + 2) = z1 at *; try generalize Int32.toInt ((1800 * x) + (6 * k)) = z2 at *; try generalize Int32.toInt (ct x.toNatClampNeg) = z3 at *; try generalize Int32.toInt (1800 * x) = z4 at *; try generalize Int32.toInt r_107.2.1 = z5 at *; try generalize Int32.toInt (6 * k) = z6 at *; try generalize Int32.toInt (1800 : Int32) = z7 at *; try generalize Int32.toInt wlz = z8 at *; try generalize Int32.toInt fi = z9 at *; try generalize Int32.toInt li = z10 at *; try generalize Int32.toInt xl = z11 at *; try generalize Int32.toInt (0 : Int32) = z12 at *; try generalize Int32.toInt (2 : Int32) = z13 at *; try generalize Int32.toInt (6 : Int32) = z14 at *; try generalize Int32.toInt k = z15 at *; try generalize Int32.toInt x = z16 at *; omega)
            refine va_iald hx hb hG.1 hP 1 2 rfl rfl b_121 dX9_write_147 ?_
            refine lv_if_ge (tgt := 154) hx hb dX9_write_148 (by decide) (fun c_134 => ?_) (fun c_134 => ?_)
            · rw [if_pos c_134] at hR
              refine lv_aload_n hx hb dX9_write_154 rfl (lv_at hl 2 rfl) ?_
              refine lv_aload_n hx hb dX9_write_155 rfl (lv_at hl 2 rfl) ?_
              refine va_get (D := (dC, dI)) (ci := 9) (v := .ref a0) (C := RX9) (T := TX9) (N := 17) hx hb hts inc_X9_write_9 hown hG.1 hP 0 rfl rfl 1 (by decide) (hts (.fieldLink RX9 13 "MappingDeskModel" "rows" "[I") (by decide +kernel)) (fun _ h9 => h9) rfl dX9_write_156 ?_
              refine lv_iload hx hb dX9_write_159 (lv_at hl 10 rfl) ?_
              refine lv_iconst (v := 2) hx hb dX9_write_161 (by decide) ?_
              refine lv_iadd hx hb dX9_write_162 ?_
              have b_135 : vp_in (((1800 * x) + (6 * k)) + 2) 3600 := by
                have hq9 := hlin (by omega) (by omega) k (by omega) (by omega)
                have q_136 := i_le c_90
                have k_137 : (0 : Int32).toInt = 0 := by decide
                have q_138 := i_ne c_91
                have q_139 := i_le c_134
                try have hq7 := hct x.toNatClampNeg (cl_lt (by omega) (by omega))
                have k_140 : (1800 : Int32).toInt = 1800 := by decide
                have t_141 : ((1800 * x)).toInt = 1800 * (x).toInt := by
                  have z := ti_mul (a := 1800) (b := x) (by rw [show (1800 : Int32).toInt = 1800 from by decide]; omega) (by rw [show (1800 : Int32).toInt = 1800 from by decide]; omega)
                  rw [z, show (1800 : Int32).toInt = 1800 from by decide]
                have k_142 : (6 : Int32).toInt = 6 := by decide
                have t_143 : ((6 * k)).toInt = 6 * (k).toInt := by
                  have z := ti_mul (a := 6) (b := k) (by rw [show (6 : Int32).toInt = 6 from by decide]; omega) (by rw [show (6 : Int32).toInt = 6 from by decide]; omega)
                  rw [z, show (6 : Int32).toInt = 6 from by decide]
                have t_144 := ti_add (a := (1800 * x)) (b := (6 * k)) (by omega) (by omega)
                have k_145 : (2 : Int32).toInt = 2 := by decide
                have t_146 := ti_add (a := ((1800 * x) + (6 * k))) (b := 2) (by omega) (by omega)
                refine vin ?_ ?_
                all_goals (try generalize Int32.toInt (rw (((1800 * x) + (6 * k)) + 2).toNatClampNeg) = z0 at *; try generalize Int32.toInt (rw ((1800 * x) + (6 * k)).toNatClampNeg) = z1 at *; try generalize Int32.toInt (((1800 * x) + (6 * k)) + 2) = z2 at *; try generalize Int32.toInt ((1800 * x) + (6 * k)) = z3 at *; try generalize Int32.toInt (ct x.toNatClampNeg) = z4 at *; try generalize Int32.toInt (1800 * x) = z5 at *; try generalize Int32.toInt r_107.2.1 = z6 at *; try generalize Int32.toInt (6 * k) = z7 at *; try generalize Int32.toInt (1800 : Int32) = z8 at *; try generalize Int32.toInt wlz = z9 at *; try generalize Int32.toInt fi = z10 at *; try generalize Int32.toInt li = z11 at *; try generalize Int32.toInt xl = z12 at *; try generalize Int32.toInt (0 : Int32) = z13 at *; try generalize Int32.toInt (2 : Int32) = z14 at *; try generalize Int32.toInt (6 : Int32) = z15 at *; try generalize Int32.toInt k = z16 at *; try generalize Int32.toInt x = z17 at *; omega)
              refine va_iald hx hb hG.1 hP 1 2 rfl rfl b_135 dX9_write_163 ?_
              refine lv_iload hx hb dX9_write_164 (lv_at hl 5 rfl) ?_
              refine lv_isub hx hb dX9_write_166 ?_
              have p_149 : 0 ≤ r_107.2.1.toInt := by
                have hq9 := hlin (by omega) (by omega) k (by omega) (by omega)
                have q_150 := i_le c_90
                have k_151 : (0 : Int32).toInt = 0 := by decide
                have q_152 := i_ne c_91
                have q_153 := i_le c_134
                try have hq7 := hct x.toNatClampNeg (cl_lt (by omega) (by omega))
                try generalize Int32.toInt (rw (((1800 * x) + (6 * k)) + 2).toNatClampNeg) = z0 at *
                try generalize Int32.toInt (rw ((1800 * x) + (6 * k)).toNatClampNeg) = z1 at *
                try generalize Int32.toInt (ct x.toNatClampNeg) = z2 at *
                try generalize Int32.toInt r_107.2.1 = z3 at *
                try generalize Int32.toInt wlz = z4 at *
                try generalize Int32.toInt fi = z5 at *
                try generalize Int32.toInt li = z6 at *
                try generalize Int32.toInt xl = z7 at *
                try generalize Int32.toInt (0 : Int32) = z8 at *
                try generalize Int32.toInt k = z9 at *
                try generalize Int32.toInt x = z10 at *
                first | omega | exact ⟨by omega, by omega⟩
              have p_154 : r_107.2.1.toInt ≤ 6000 := by
                have hq9 := hlin (by omega) (by omega) k (by omega) (by omega)
                have q_155 := i_le c_90
                have k_156 : (0 : Int32).toInt = 0 := by decide
                have q_157 := i_ne c_91
                have q_158 := i_le c_134
                try have hq7 := hct x.toNatClampNeg (cl_lt (by omega) (by omega))
                try generalize Int32.toInt (rw (((1800 * x) + (6 * k)) + 2).toNatClampNeg) = z0 at *
                try generalize Int32.toInt (rw ((1800 * x) + (6 * k)).toNatClampNeg) = z1 at *
                try generalize Int32.toInt (ct x.toNatClampNeg) = z2 at *
                try generalize Int32.toInt r_107.2.1 = z3 at *
                try generalize Int32.toInt wlz = z4 at *
                try generalize Int32.toInt fi = z5 at *
                try generalize Int32.toInt li = z6 at *
                try generalize Int32.toInt xl = z7 at *
                try generalize Int32.toInt (0 : Int32) = z8 at *
                try generalize Int32.toInt k = z9 at *
                try generalize Int32.toInt x = z10 at *
                first | omega | exact ⟨by omega, by omega⟩
              have hPc := hP.sub (ws' := [(h0, .inr (9, [.int 0, .ref a0, .ref a1, .ref a2, .int dc, .ref a3, .int tl, .ref a4, .int xl, .int fo, .int fa, .ref a5, .int mn, .ref a6, .int r_107.1, .ref a7, .int r_107.2.1])), (a7, .inl (cB, 6000, .inl r_107.2.2))]) [0, 4] rfl
              have hDc := hD.sub (ws' := [(h0, .inr (9, [.int 0, .ref a0, .ref a1, .ref a2, .int dc, .ref a3, .int tl, .ref a4, .int xl, .int fo, .int fa, .ref a5, .int mn, .ref a6, .int r_107.1, .ref a7, .int r_107.2.1])), (a7, .inl (cB, 6000, .inl r_107.2.2))]) [0, 4] (by decide) rfl
              have hFc := va_free (wc := [(h0, .inr (9, [.int 0, .ref a0, .ref a1, .ref a2, .int dc, .ref a3, .int tl, .ref a4, .int xl, .int fo, .int fa, .ref a5, .int mn, .ref a6, .int r_107.1, .ref a7, .int r_107.2.1])), (a7, .inl (cB, 6000, .inl r_107.2.2))]) hD hS hA [0, 4] rfl
              refine va_callv (va_runV (As := [.int ((rw (((1800 * x) + (6 * k)) + 2).toNatClampNeg) - so)]) (rest := []) ⟨hx, hb, hml, hown, hts⟩ (c_X9_addNumber l dC dI cB cC cI cJ H.size h0 a0 a1 a2 a3 a4 a5 a6 a7 0 dc tl xl fo fa mn r_107.1 r_107.2.1 r_107.2.2 ((rw (((1800 * x) + (6 * k)) + 2).toNatClampNeg) - so) p_149 p_154) (cwV 1 hts gX9_write_X9_addNumber rfl rfl rfl (by decide +kernel) ⟨(Nat.le_of_ble_eq_true rfl), (Nat.le_of_ble_eq_true rfl)⟩) ⟨cP_blind, va_recv hG.1 hPc (ci := 9) (q0 := 0) rfl rfl, cP_pre hPc hG hDc⟩ rfl rfl hl.1 rfl (lv_room (Nat.le_of_ble_eq_true rfl)) dX9_write_167 ⟨Nat.le_of_ble_eq_true rfl, Nat.le_of_ble_eq_true rfl⟩) hS (fun q _ h => hFc q h) hFc (fun u t H1 locs ht hvm hw hB hz1 hk1 hS => ?_)
              obtain ⟨hP1, hD1⟩ := hB
              rw [ht] at hP1
              generalize hr_159 : fX9_addNumber 0 dc tl xl fo fa mn r_107.1 r_107.2.1 r_107.2.2 ((rw (((1800 * x) + (6 * k)) + 2).toNatClampNeg) - so) = r_159 at hP1 hD1 hw
              have er_159_0 := hw
              rw [bnd_eq hr_159] at hR
              obtain ⟨hP, hD⟩ := va_join (wr := [(a0, .inl (cI, 3600, .inl rw)), (a1, .inl (cI, 2, .inl ct)), (a4, .inl (cB, 6000, .inl tx))]) (w1 := [(h0, .inr (9, [.int 0, .ref a0, .ref a1, .ref a2, .int dc, .ref a3, .int tl, .ref a4, .int xl, .int fo, .int fa, .ref a5, .int mn, .ref a6, .int r_159.1, .ref a7, .int r_159.2.1])), (a7, .inl (cB, 6000, .inl r_159.2.2))]) hP hD [0, 4] [1, 2, 3] rfl rfl (by decide) (by decide) hk1 hFc hP1 hD1
              generalize H1 = H at hP hS ⊢
              have hP := hP.sub (ws' := [(h0, .inr (9, [.int 0, .ref a0, .ref a1, .ref a2, .int dc, .ref a3, .int tl, .ref a4, .int xl, .int fo, .int fa, .ref a5, .int mn, .ref a6, .int r_159.1, .ref a7, .int r_159.2.1])), (a0, .inl (cI, 3600, .inl rw)), (a1, .inl (cI, 2, .inl ct)), (a4, .inl (cB, 6000, .inl tx)), (a7, .inl (cB, 6000, .inl r_159.2.2))]) [3, 0, 1, 2, 4] rfl
              have hD := hD.sub (ws' := [(h0, .inr (9, [.int 0, .ref a0, .ref a1, .ref a2, .int dc, .ref a3, .int tl, .ref a4, .int xl, .int fo, .int fa, .ref a5, .int mn, .ref a6, .int r_159.1, .ref a7, .int r_159.2.1])), (a0, .inl (cI, 3600, .inl rw)), (a1, .inl (cI, 2, .inl ct)), (a4, .inl (cB, 6000, .inl tx)), (a7, .inl (cB, 6000, .inl r_159.2.2))]) [3, 0, 1, 2, 4] (by decide) rfl
              refine lv_aload_n hx hb dX9_write_170 rfl (lv_at hl 2 rfl) ?_
              refine lv_aload_n hx hb dX9_write_171 rfl (lv_at hl 2 rfl) ?_
              refine va_get (D := (dC, dI)) (ci := 9) (v := .ref a0) (C := RX9) (T := TX9) (N := 17) hx hb hts inc_X9_write_9 hown hG.1 hP 0 rfl rfl 1 (by decide) (hts (.fieldLink RX9 13 "MappingDeskModel" "rows" "[I") (by decide +kernel)) (fun _ h9 => h9) rfl dX9_write_172 ?_
              refine lv_iload hx hb dX9_write_175 (lv_at hl 10 rfl) ?_
              refine lv_iconst (v := 3) hx hb dX9_write_177 (by decide) ?_
              refine lv_iadd hx hb dX9_write_178 ?_
              have b_160 : vp_in (((1800 * x) + (6 * k)) + 3) 3600 := by
                have hq9 := hlin (by omega) (by omega) k (by omega) (by omega)
                have q_161 := i_le c_90
                have k_162 : (0 : Int32).toInt = 0 := by decide
                have q_163 := i_ne c_91
                have q_164 := i_le c_134
                try have hq7 := hct x.toNatClampNeg (cl_lt (by omega) (by omega))
                have k_165 : (1800 : Int32).toInt = 1800 := by decide
                have t_166 : ((1800 * x)).toInt = 1800 * (x).toInt := by
                  have z := ti_mul (a := 1800) (b := x) (by rw [show (1800 : Int32).toInt = 1800 from by decide]; omega) (by rw [show (1800 : Int32).toInt = 1800 from by decide]; omega)
                  rw [z, show (1800 : Int32).toInt = 1800 from by decide]
                have k_167 : (6 : Int32).toInt = 6 := by decide
                have t_168 : ((6 * k)).toInt = 6 * (k).toInt := by
                  have z := ti_mul (a := 6) (b := k) (by rw [show (6 : Int32).toInt = 6 from by decide]; omega) (by rw [show (6 : Int32).toInt = 6 from by decide]; omega)
                  rw [z, show (6 : Int32).toInt = 6 from by decide]
                have t_169 := ti_add (a := (1800 * x)) (b := (6 * k)) (by omega) (by omega)
                have k_170 : (3 : Int32).toInt = 3 := by decide
                have t_171 := ti_add (a := ((1800 * x) + (6 * k))) (b := 3) (by omega) (by omega)
                refine vin ?_ ?_
                all_goals (try generalize Int32.toInt (rw (((1800 * x) + (6 * k)) + 2).toNatClampNeg) = z0 at *; try generalize Int32.toInt (rw ((1800 * x) + (6 * k)).toNatClampNeg) = z1 at *; try generalize Int32.toInt (((1800 * x) + (6 * k)) + 3) = z2 at *; try generalize Int32.toInt ((1800 * x) + (6 * k)) = z3 at *; try generalize Int32.toInt (ct x.toNatClampNeg) = z4 at *; try generalize Int32.toInt (1800 * x) = z5 at *; try generalize Int32.toInt r_107.2.1 = z6 at *; try generalize Int32.toInt r_159.2.1 = z7 at *; try generalize Int32.toInt (6 * k) = z8 at *; try generalize Int32.toInt (1800 : Int32) = z9 at *; try generalize Int32.toInt wlz = z10 at *; try generalize Int32.toInt fi = z11 at *; try generalize Int32.toInt li = z12 at *; try generalize Int32.toInt xl = z13 at *; try generalize Int32.toInt (0 : Int32) = z14 at *; try generalize Int32.toInt (3 : Int32) = z15 at *; try generalize Int32.toInt (6 : Int32) = z16 at *; try generalize Int32.toInt k = z17 at *; try generalize Int32.toInt x = z18 at *; omega)
              refine va_iald hx hb hG.1 hP 1 2 rfl rfl b_160 dX9_write_179 ?_
              refine lv_iload hx hb dX9_write_180 (lv_at hl 6 rfl) ?_
              refine lv_isub hx hb dX9_write_182 ?_
              have p_174 : 0 ≤ r_159.2.1.toInt := by
                have hq9 := hlin (by omega) (by omega) k (by omega) (by omega)
                have q_175 := i_le c_90
                have k_176 : (0 : Int32).toInt = 0 := by decide
                have q_177 := i_ne c_91
                have q_178 := i_le c_134
                try have hq7 := hct x.toNatClampNeg (cl_lt (by omega) (by omega))
                try generalize Int32.toInt (rw (((1800 * x) + (6 * k)) + 2).toNatClampNeg) = z0 at *
                try generalize Int32.toInt (rw ((1800 * x) + (6 * k)).toNatClampNeg) = z1 at *
                try generalize Int32.toInt (ct x.toNatClampNeg) = z2 at *
                try generalize Int32.toInt r_107.2.1 = z3 at *
                try generalize Int32.toInt r_159.2.1 = z4 at *
                try generalize Int32.toInt wlz = z5 at *
                try generalize Int32.toInt fi = z6 at *
                try generalize Int32.toInt li = z7 at *
                try generalize Int32.toInt xl = z8 at *
                try generalize Int32.toInt (0 : Int32) = z9 at *
                try generalize Int32.toInt k = z10 at *
                try generalize Int32.toInt x = z11 at *
                first | omega | exact ⟨by omega, by omega⟩
              have p_179 : r_159.2.1.toInt ≤ 6000 := by
                have hq9 := hlin (by omega) (by omega) k (by omega) (by omega)
                have q_180 := i_le c_90
                have k_181 : (0 : Int32).toInt = 0 := by decide
                have q_182 := i_ne c_91
                have q_183 := i_le c_134
                try have hq7 := hct x.toNatClampNeg (cl_lt (by omega) (by omega))
                try generalize Int32.toInt (rw (((1800 * x) + (6 * k)) + 2).toNatClampNeg) = z0 at *
                try generalize Int32.toInt (rw ((1800 * x) + (6 * k)).toNatClampNeg) = z1 at *
                try generalize Int32.toInt (ct x.toNatClampNeg) = z2 at *
                try generalize Int32.toInt r_107.2.1 = z3 at *
                try generalize Int32.toInt r_159.2.1 = z4 at *
                try generalize Int32.toInt wlz = z5 at *
                try generalize Int32.toInt fi = z6 at *
                try generalize Int32.toInt li = z7 at *
                try generalize Int32.toInt xl = z8 at *
                try generalize Int32.toInt (0 : Int32) = z9 at *
                try generalize Int32.toInt k = z10 at *
                try generalize Int32.toInt x = z11 at *
                first | omega | exact ⟨by omega, by omega⟩
              have hPc := hP.sub (ws' := [(h0, .inr (9, [.int 0, .ref a0, .ref a1, .ref a2, .int dc, .ref a3, .int tl, .ref a4, .int xl, .int fo, .int fa, .ref a5, .int mn, .ref a6, .int r_159.1, .ref a7, .int r_159.2.1])), (a7, .inl (cB, 6000, .inl r_159.2.2))]) [0, 4] rfl
              have hDc := hD.sub (ws' := [(h0, .inr (9, [.int 0, .ref a0, .ref a1, .ref a2, .int dc, .ref a3, .int tl, .ref a4, .int xl, .int fo, .int fa, .ref a5, .int mn, .ref a6, .int r_159.1, .ref a7, .int r_159.2.1])), (a7, .inl (cB, 6000, .inl r_159.2.2))]) [0, 4] (by decide) rfl
              have hFc := va_free (wc := [(h0, .inr (9, [.int 0, .ref a0, .ref a1, .ref a2, .int dc, .ref a3, .int tl, .ref a4, .int xl, .int fo, .int fa, .ref a5, .int mn, .ref a6, .int r_159.1, .ref a7, .int r_159.2.1])), (a7, .inl (cB, 6000, .inl r_159.2.2))]) hD hS hA [0, 4] rfl
              refine va_callv (va_runV (As := [.int ((rw (((1800 * x) + (6 * k)) + 3).toNatClampNeg) - sl)]) (rest := []) ⟨hx, hb, hml, hown, hts⟩ (c_X9_addNumber l dC dI cB cC cI cJ H.size h0 a0 a1 a2 a3 a4 a5 a6 a7 0 dc tl xl fo fa mn r_159.1 r_159.2.1 r_159.2.2 ((rw (((1800 * x) + (6 * k)) + 3).toNatClampNeg) - sl) p_174 p_179) (cwV 1 hts gX9_write_X9_addNumber rfl rfl rfl (by decide +kernel) ⟨(Nat.le_of_ble_eq_true rfl), (Nat.le_of_ble_eq_true rfl)⟩) ⟨cP_blind, va_recv hG.1 hPc (ci := 9) (q0 := 0) rfl rfl, cP_pre hPc hG hDc⟩ rfl rfl hl.1 rfl (lv_room (Nat.le_of_ble_eq_true rfl)) dX9_write_183 ⟨Nat.le_of_ble_eq_true rfl, Nat.le_of_ble_eq_true rfl⟩) hS (fun q _ h => hFc q h) hFc (fun u t H1 locs ht hvm hw hB hz1 hk1 hS => ?_)
              obtain ⟨hP1, hD1⟩ := hB
              rw [ht] at hP1
              generalize hr_184 : fX9_addNumber 0 dc tl xl fo fa mn r_159.1 r_159.2.1 r_159.2.2 ((rw (((1800 * x) + (6 * k)) + 3).toNatClampNeg) - sl) = r_184 at hP1 hD1 hw
              have er_184_0 := hw
              rw [bnd_eq hr_184] at hR
              obtain ⟨hP, hD⟩ := va_join (wr := [(a0, .inl (cI, 3600, .inl rw)), (a1, .inl (cI, 2, .inl ct)), (a4, .inl (cB, 6000, .inl tx))]) (w1 := [(h0, .inr (9, [.int 0, .ref a0, .ref a1, .ref a2, .int dc, .ref a3, .int tl, .ref a4, .int xl, .int fo, .int fa, .ref a5, .int mn, .ref a6, .int r_184.1, .ref a7, .int r_184.2.1])), (a7, .inl (cB, 6000, .inl r_184.2.2))]) hP hD [0, 4] [1, 2, 3] rfl rfl (by decide) (by decide) hk1 hFc hP1 hD1
              generalize H1 = H at hP hS ⊢
              have hP := hP.sub (ws' := [(h0, .inr (9, [.int 0, .ref a0, .ref a1, .ref a2, .int dc, .ref a3, .int tl, .ref a4, .int xl, .int fo, .int fa, .ref a5, .int mn, .ref a6, .int r_184.1, .ref a7, .int r_184.2.1])), (a0, .inl (cI, 3600, .inl rw)), (a1, .inl (cI, 2, .inl ct)), (a4, .inl (cB, 6000, .inl tx)), (a7, .inl (cB, 6000, .inl r_184.2.2))]) [3, 0, 1, 2, 4] rfl
              have hD := hD.sub (ws' := [(h0, .inr (9, [.int 0, .ref a0, .ref a1, .ref a2, .int dc, .ref a3, .int tl, .ref a4, .int xl, .int fo, .int fa, .ref a5, .int mn, .ref a6, .int r_184.1, .ref a7, .int r_184.2.1])), (a0, .inl (cI, 3600, .inl rw)), (a1, .inl (cI, 2, .inl ct)), (a4, .inl (cB, 6000, .inl tx)), (a7, .inl (cB, 6000, .inl r_184.2.2))]) [3, 0, 1, 2, 4] (by decide) rfl
              refine lv_aload_n hx hb dX9_write_186 rfl (lv_at hl 2 rfl) ?_
              refine lv_aload_n hx hb dX9_write_187 rfl (lv_at hl 2 rfl) ?_
              refine va_get (D := (dC, dI)) (ci := 9) (v := .ref a0) (C := RX9) (T := TX9) (N := 17) hx hb hts inc_X9_write_9 hown hG.1 hP 0 rfl rfl 1 (by decide) (hts (.fieldLink RX9 13 "MappingDeskModel" "rows" "[I") (by decide +kernel)) (fun _ h9 => h9) rfl dX9_write_188 ?_
              refine lv_iload hx hb dX9_write_191 (lv_at hl 10 rfl) ?_
              refine lv_iconst (v := 4) hx hb dX9_write_193 (by decide) ?_
              refine lv_iadd hx hb dX9_write_194 ?_
              have b_185 : vp_in (((1800 * x) + (6 * k)) + 4) 3600 := by
                have hq9 := hlin (by omega) (by omega) k (by omega) (by omega)
                have q_186 := i_le c_90
                have k_187 : (0 : Int32).toInt = 0 := by decide
                have q_188 := i_ne c_91
                have q_189 := i_le c_134
                try have hq7 := hct x.toNatClampNeg (cl_lt (by omega) (by omega))
                have k_190 : (1800 : Int32).toInt = 1800 := by decide
                have t_191 : ((1800 * x)).toInt = 1800 * (x).toInt := by
                  have z := ti_mul (a := 1800) (b := x) (by rw [show (1800 : Int32).toInt = 1800 from by decide]; omega) (by rw [show (1800 : Int32).toInt = 1800 from by decide]; omega)
                  rw [z, show (1800 : Int32).toInt = 1800 from by decide]
                have k_192 : (6 : Int32).toInt = 6 := by decide
                have t_193 : ((6 * k)).toInt = 6 * (k).toInt := by
                  have z := ti_mul (a := 6) (b := k) (by rw [show (6 : Int32).toInt = 6 from by decide]; omega) (by rw [show (6 : Int32).toInt = 6 from by decide]; omega)
                  rw [z, show (6 : Int32).toInt = 6 from by decide]
                have t_194 := ti_add (a := (1800 * x)) (b := (6 * k)) (by omega) (by omega)
                have k_195 : (4 : Int32).toInt = 4 := by decide
                have t_196 := ti_add (a := ((1800 * x) + (6 * k))) (b := 4) (by omega) (by omega)
                refine vin ?_ ?_
                all_goals (try generalize Int32.toInt (rw (((1800 * x) + (6 * k)) + 2).toNatClampNeg) = z0 at *; try generalize Int32.toInt (rw ((1800 * x) + (6 * k)).toNatClampNeg) = z1 at *; try generalize Int32.toInt (((1800 * x) + (6 * k)) + 4) = z2 at *; try generalize Int32.toInt ((1800 * x) + (6 * k)) = z3 at *; try generalize Int32.toInt (ct x.toNatClampNeg) = z4 at *; try generalize Int32.toInt (1800 * x) = z5 at *; try generalize Int32.toInt r_107.2.1 = z6 at *; try generalize Int32.toInt r_159.2.1 = z7 at *; try generalize Int32.toInt r_184.2.1 = z8 at *; try generalize Int32.toInt (6 * k) = z9 at *; try generalize Int32.toInt (1800 : Int32) = z10 at *; try generalize Int32.toInt wlz = z11 at *; try generalize Int32.toInt fi = z12 at *; try generalize Int32.toInt li = z13 at *; try generalize Int32.toInt xl = z14 at *; try generalize Int32.toInt (0 : Int32) = z15 at *; try generalize Int32.toInt (4 : Int32) = z16 at *; try generalize Int32.toInt (6 : Int32) = z17 at *; try generalize Int32.toInt k = z18 at *; try generalize Int32.toInt x = z19 at *; omega)
              refine va_iald hx hb hG.1 hP 1 2 rfl rfl b_185 dX9_write_195 ?_
              refine lv_iload hx hb dX9_write_196 (lv_at hl 7 rfl) ?_
              refine lv_isub hx hb dX9_write_198 ?_
              have p_199 : 0 ≤ r_184.2.1.toInt := by
                have hq9 := hlin (by omega) (by omega) k (by omega) (by omega)
                have q_200 := i_le c_90
                have k_201 : (0 : Int32).toInt = 0 := by decide
                have q_202 := i_ne c_91
                have q_203 := i_le c_134
                try have hq7 := hct x.toNatClampNeg (cl_lt (by omega) (by omega))
                try generalize Int32.toInt (rw (((1800 * x) + (6 * k)) + 2).toNatClampNeg) = z0 at *
                try generalize Int32.toInt (rw ((1800 * x) + (6 * k)).toNatClampNeg) = z1 at *
                try generalize Int32.toInt (ct x.toNatClampNeg) = z2 at *
                try generalize Int32.toInt r_107.2.1 = z3 at *
                try generalize Int32.toInt r_159.2.1 = z4 at *
                try generalize Int32.toInt r_184.2.1 = z5 at *
                try generalize Int32.toInt wlz = z6 at *
                try generalize Int32.toInt fi = z7 at *
                try generalize Int32.toInt li = z8 at *
                try generalize Int32.toInt xl = z9 at *
                try generalize Int32.toInt (0 : Int32) = z10 at *
                try generalize Int32.toInt k = z11 at *
                try generalize Int32.toInt x = z12 at *
                first | omega | exact ⟨by omega, by omega⟩
              have p_204 : r_184.2.1.toInt ≤ 6000 := by
                have hq9 := hlin (by omega) (by omega) k (by omega) (by omega)
                have q_205 := i_le c_90
                have k_206 : (0 : Int32).toInt = 0 := by decide
                have q_207 := i_ne c_91
                have q_208 := i_le c_134
                try have hq7 := hct x.toNatClampNeg (cl_lt (by omega) (by omega))
                try generalize Int32.toInt (rw (((1800 * x) + (6 * k)) + 2).toNatClampNeg) = z0 at *
                try generalize Int32.toInt (rw ((1800 * x) + (6 * k)).toNatClampNeg) = z1 at *
                try generalize Int32.toInt (ct x.toNatClampNeg) = z2 at *
                try generalize Int32.toInt r_107.2.1 = z3 at *
                try generalize Int32.toInt r_159.2.1 = z4 at *
                try generalize Int32.toInt r_184.2.1 = z5 at *
                try generalize Int32.toInt wlz = z6 at *
                try generalize Int32.toInt fi = z7 at *
                try generalize Int32.toInt li = z8 at *
                try generalize Int32.toInt xl = z9 at *
                try generalize Int32.toInt (0 : Int32) = z10 at *
                try generalize Int32.toInt k = z11 at *
                try generalize Int32.toInt x = z12 at *
                first | omega | exact ⟨by omega, by omega⟩
              have hPc := hP.sub (ws' := [(h0, .inr (9, [.int 0, .ref a0, .ref a1, .ref a2, .int dc, .ref a3, .int tl, .ref a4, .int xl, .int fo, .int fa, .ref a5, .int mn, .ref a6, .int r_184.1, .ref a7, .int r_184.2.1])), (a7, .inl (cB, 6000, .inl r_184.2.2))]) [0, 4] rfl
              have hDc := hD.sub (ws' := [(h0, .inr (9, [.int 0, .ref a0, .ref a1, .ref a2, .int dc, .ref a3, .int tl, .ref a4, .int xl, .int fo, .int fa, .ref a5, .int mn, .ref a6, .int r_184.1, .ref a7, .int r_184.2.1])), (a7, .inl (cB, 6000, .inl r_184.2.2))]) [0, 4] (by decide) rfl
              have hFc := va_free (wc := [(h0, .inr (9, [.int 0, .ref a0, .ref a1, .ref a2, .int dc, .ref a3, .int tl, .ref a4, .int xl, .int fo, .int fa, .ref a5, .int mn, .ref a6, .int r_184.1, .ref a7, .int r_184.2.1])), (a7, .inl (cB, 6000, .inl r_184.2.2))]) hD hS hA [0, 4] rfl
              refine va_callv (va_runV (As := [.int ((rw (((1800 * x) + (6 * k)) + 4).toNatClampNeg) - sc)]) (rest := []) ⟨hx, hb, hml, hown, hts⟩ (c_X9_addNumber l dC dI cB cC cI cJ H.size h0 a0 a1 a2 a3 a4 a5 a6 a7 0 dc tl xl fo fa mn r_184.1 r_184.2.1 r_184.2.2 ((rw (((1800 * x) + (6 * k)) + 4).toNatClampNeg) - sc) p_199 p_204) (cwV 1 hts gX9_write_X9_addNumber rfl rfl rfl (by decide +kernel) ⟨(Nat.le_of_ble_eq_true rfl), (Nat.le_of_ble_eq_true rfl)⟩) ⟨cP_blind, va_recv hG.1 hPc (ci := 9) (q0 := 0) rfl rfl, cP_pre hPc hG hDc⟩ rfl rfl hl.1 rfl (lv_room (Nat.le_of_ble_eq_true rfl)) dX9_write_199 ⟨Nat.le_of_ble_eq_true rfl, Nat.le_of_ble_eq_true rfl⟩) hS (fun q _ h => hFc q h) hFc (fun u t H1 locs ht hvm hw hB hz1 hk1 hS => ?_)
              obtain ⟨hP1, hD1⟩ := hB
              rw [ht] at hP1
              generalize hr_209 : fX9_addNumber 0 dc tl xl fo fa mn r_184.1 r_184.2.1 r_184.2.2 ((rw (((1800 * x) + (6 * k)) + 4).toNatClampNeg) - sc) = r_209 at hP1 hD1 hw
              have er_209_0 := hw
              rw [bnd_eq hr_209] at hR
              obtain ⟨hP, hD⟩ := va_join (wr := [(a0, .inl (cI, 3600, .inl rw)), (a1, .inl (cI, 2, .inl ct)), (a4, .inl (cB, 6000, .inl tx))]) (w1 := [(h0, .inr (9, [.int 0, .ref a0, .ref a1, .ref a2, .int dc, .ref a3, .int tl, .ref a4, .int xl, .int fo, .int fa, .ref a5, .int mn, .ref a6, .int r_209.1, .ref a7, .int r_209.2.1])), (a7, .inl (cB, 6000, .inl r_209.2.2))]) hP hD [0, 4] [1, 2, 3] rfl rfl (by decide) (by decide) hk1 hFc hP1 hD1
              generalize H1 = H at hP hS ⊢
              have hP := hP.sub (ws' := [(h0, .inr (9, [.int 0, .ref a0, .ref a1, .ref a2, .int dc, .ref a3, .int tl, .ref a4, .int xl, .int fo, .int fa, .ref a5, .int mn, .ref a6, .int r_209.1, .ref a7, .int r_209.2.1])), (a0, .inl (cI, 3600, .inl rw)), (a1, .inl (cI, 2, .inl ct)), (a4, .inl (cB, 6000, .inl tx)), (a7, .inl (cB, 6000, .inl r_209.2.2))]) [3, 0, 1, 2, 4] rfl
              have hD := hD.sub (ws' := [(h0, .inr (9, [.int 0, .ref a0, .ref a1, .ref a2, .int dc, .ref a3, .int tl, .ref a4, .int xl, .int fo, .int fa, .ref a5, .int mn, .ref a6, .int r_209.1, .ref a7, .int r_209.2.1])), (a0, .inl (cI, 3600, .inl rw)), (a1, .inl (cI, 2, .inl ct)), (a4, .inl (cB, 6000, .inl tx)), (a7, .inl (cB, 6000, .inl r_209.2.2))]) [3, 0, 1, 2, 4] (by decide) rfl
              refine lv_aload_n hx hb dX9_write_202 rfl (lv_at hl 2 rfl) ?_
              refine va_get (D := (dC, dI)) (ci := 9) (v := .ref a0) (C := RX9) (T := TX9) (N := 17) hx hb hts inc_X9_write_9 hown hG.1 hP 0 rfl rfl 1 (by decide) (hts (.fieldLink RX9 13 "MappingDeskModel" "rows" "[I") (by decide +kernel)) (fun _ h9 => h9) rfl dX9_write_203 ?_
              refine lv_iload hx hb dX9_write_206 (lv_at hl 10 rfl) ?_
              refine lv_iconst (v := 2) hx hb dX9_write_208 (by decide) ?_
              refine lv_iadd hx hb dX9_write_209 ?_
              have b_210 : vp_in (((1800 * x) + (6 * k)) + 2) 3600 := by
                have hq9 := hlin (by omega) (by omega) k (by omega) (by omega)
                have q_211 := i_le c_90
                have k_212 : (0 : Int32).toInt = 0 := by decide
                have q_213 := i_ne c_91
                have q_214 := i_le c_134
                try have hq7 := hct x.toNatClampNeg (cl_lt (by omega) (by omega))
                have k_215 : (1800 : Int32).toInt = 1800 := by decide
                have t_216 : ((1800 * x)).toInt = 1800 * (x).toInt := by
                  have z := ti_mul (a := 1800) (b := x) (by rw [show (1800 : Int32).toInt = 1800 from by decide]; omega) (by rw [show (1800 : Int32).toInt = 1800 from by decide]; omega)
                  rw [z, show (1800 : Int32).toInt = 1800 from by decide]
                have k_217 : (6 : Int32).toInt = 6 := by decide
                have t_218 : ((6 * k)).toInt = 6 * (k).toInt := by
                  have z := ti_mul (a := 6) (b := k) (by rw [show (6 : Int32).toInt = 6 from by decide]; omega) (by rw [show (6 : Int32).toInt = 6 from by decide]; omega)
                  rw [z, show (6 : Int32).toInt = 6 from by decide]
                have t_219 := ti_add (a := (1800 * x)) (b := (6 * k)) (by omega) (by omega)
                have k_220 : (2 : Int32).toInt = 2 := by decide
                have t_221 := ti_add (a := ((1800 * x) + (6 * k))) (b := 2) (by omega) (by omega)
                refine vin ?_ ?_
                all_goals (try generalize Int32.toInt (rw (((1800 * x) + (6 * k)) + 2).toNatClampNeg) = z0 at *; try generalize Int32.toInt (rw ((1800 * x) + (6 * k)).toNatClampNeg) = z1 at *; try generalize Int32.toInt (((1800 * x) + (6 * k)) + 2) = z2 at *; try generalize Int32.toInt ((1800 * x) + (6 * k)) = z3 at *; try generalize Int32.toInt (ct x.toNatClampNeg) = z4 at *; try generalize Int32.toInt (1800 * x) = z5 at *; try generalize Int32.toInt r_107.2.1 = z6 at *; try generalize Int32.toInt r_159.2.1 = z7 at *; try generalize Int32.toInt r_184.2.1 = z8 at *; try generalize Int32.toInt r_209.2.1 = z9 at *; try generalize Int32.toInt (6 * k) = z10 at *; try generalize Int32.toInt (1800 : Int32) = z11 at *; try generalize Int32.toInt wlz = z12 at *; try generalize Int32.toInt fi = z13 at *; try generalize Int32.toInt li = z14 at *; try generalize Int32.toInt xl = z15 at *; try generalize Int32.toInt (0 : Int32) = z16 at *; try generalize Int32.toInt (2 : Int32) = z17 at *; try generalize Int32.toInt (6 : Int32) = z18 at *; try generalize Int32.toInt k = z19 at *; try generalize Int32.toInt x = z20 at *; omega)
              refine va_iald hx hb hG.1 hP 1 2 rfl rfl b_210 dX9_write_210 ?_
              refine lv_istore (lv' := [(4, .int (rw (((1800 * x) + (6 * k)) + 2).toNatClampNeg)), (3, .int (rw (((1800 * x) + (6 * k)) + 1).toNatClampNeg)), (8, .int 0), (0, .ref h0), (1, .int x), (2, .int li), (5, .int sl), (6, .int sc), (7, .int nm), (9, .int k), (10, .int ((1800 * x) + (6 * k)))]) hx hb dX9_write_211 hl (by decide) rfl (fun ls hl => ?_)
              refine lv_aload_n hx hb dX9_write_213 rfl (lv_at hl 3 rfl) ?_
              refine va_get (D := (dC, dI)) (ci := 9) (v := .ref a0) (C := RX9) (T := TX9) (N := 17) hx hb hts inc_X9_write_9 hown hG.1 hP 0 rfl rfl 1 (by decide) (hts (.fieldLink RX9 13 "MappingDeskModel" "rows" "[I") (by decide +kernel)) (fun _ h9 => h9) rfl dX9_write_214 ?_
              refine lv_iload hx hb dX9_write_217 (lv_at hl 10 rfl) ?_
              refine lv_iconst (v := 3) hx hb dX9_write_219 (by decide) ?_
              refine lv_iadd hx hb dX9_write_220 ?_
              have b_224 : vp_in (((1800 * x) + (6 * k)) + 3) 3600 := by
                have hq9 := hlin (by omega) (by omega) k (by omega) (by omega)
                have q_225 := i_le c_90
                have k_226 : (0 : Int32).toInt = 0 := by decide
                have q_227 := i_ne c_91
                have q_228 := i_le c_134
                try have hq7 := hct x.toNatClampNeg (cl_lt (by omega) (by omega))
                have k_229 : (1800 : Int32).toInt = 1800 := by decide
                have t_230 : ((1800 * x)).toInt = 1800 * (x).toInt := by
                  have z := ti_mul (a := 1800) (b := x) (by rw [show (1800 : Int32).toInt = 1800 from by decide]; omega) (by rw [show (1800 : Int32).toInt = 1800 from by decide]; omega)
                  rw [z, show (1800 : Int32).toInt = 1800 from by decide]
                have k_231 : (6 : Int32).toInt = 6 := by decide
                have t_232 : ((6 * k)).toInt = 6 * (k).toInt := by
                  have z := ti_mul (a := 6) (b := k) (by rw [show (6 : Int32).toInt = 6 from by decide]; omega) (by rw [show (6 : Int32).toInt = 6 from by decide]; omega)
                  rw [z, show (6 : Int32).toInt = 6 from by decide]
                have t_233 := ti_add (a := (1800 * x)) (b := (6 * k)) (by omega) (by omega)
                have k_234 : (3 : Int32).toInt = 3 := by decide
                have t_235 := ti_add (a := ((1800 * x) + (6 * k))) (b := 3) (by omega) (by omega)
                refine vin ?_ ?_
                all_goals (try generalize Int32.toInt (rw (((1800 * x) + (6 * k)) + 2).toNatClampNeg) = z0 at *; try generalize Int32.toInt (rw ((1800 * x) + (6 * k)).toNatClampNeg) = z1 at *; try generalize Int32.toInt (((1800 * x) + (6 * k)) + 3) = z2 at *; try generalize Int32.toInt ((1800 * x) + (6 * k)) = z3 at *; try generalize Int32.toInt (ct x.toNatClampNeg) = z4 at *; try generalize Int32.toInt (1800 * x) = z5 at *; try generalize Int32.toInt r_107.2.1 = z6 at *; try generalize Int32.toInt r_159.2.1 = z7 at *; try generalize Int32.toInt r_184.2.1 = z8 at *; try generalize Int32.toInt r_209.2.1 = z9 at *; try generalize Int32.toInt (6 * k) = z10 at *; try generalize Int32.toInt (1800 : Int32) = z11 at *; try generalize Int32.toInt wlz = z12 at *; try generalize Int32.toInt fi = z13 at *; try generalize Int32.toInt li = z14 at *; try generalize Int32.toInt xl = z15 at *; try generalize Int32.toInt (0 : Int32) = z16 at *; try generalize Int32.toInt (3 : Int32) = z17 at *; try generalize Int32.toInt (6 : Int32) = z18 at *; try generalize Int32.toInt k = z19 at *; try generalize Int32.toInt x = z20 at *; omega)
              refine va_iald hx hb hG.1 hP 1 2 rfl rfl b_224 dX9_write_221 ?_
              refine lv_istore (lv' := [(5, .int (rw (((1800 * x) + (6 * k)) + 3).toNatClampNeg)), (4, .int (rw (((1800 * x) + (6 * k)) + 2).toNatClampNeg)), (3, .int (rw (((1800 * x) + (6 * k)) + 1).toNatClampNeg)), (8, .int 0), (0, .ref h0), (1, .int x), (2, .int li), (6, .int sc), (7, .int nm), (9, .int k), (10, .int ((1800 * x) + (6 * k)))]) hx hb dX9_write_222 hl (by decide) rfl (fun ls hl => ?_)
              refine lv_aload_n hx hb dX9_write_224 rfl (lv_at hl 4 rfl) ?_
              refine va_get (D := (dC, dI)) (ci := 9) (v := .ref a0) (C := RX9) (T := TX9) (N := 17) hx hb hts inc_X9_write_9 hown hG.1 hP 0 rfl rfl 1 (by decide) (hts (.fieldLink RX9 13 "MappingDeskModel" "rows" "[I") (by decide +kernel)) (fun _ h9 => h9) rfl dX9_write_225 ?_
              refine lv_iload hx hb dX9_write_228 (lv_at hl 10 rfl) ?_
              refine lv_iconst (v := 4) hx hb dX9_write_230 (by decide) ?_
              refine lv_iadd hx hb dX9_write_231 ?_
              have b_238 : vp_in (((1800 * x) + (6 * k)) + 4) 3600 := by
                have hq9 := hlin (by omega) (by omega) k (by omega) (by omega)
                have q_239 := i_le c_90
                have k_240 : (0 : Int32).toInt = 0 := by decide
                have q_241 := i_ne c_91
                have q_242 := i_le c_134
                try have hq7 := hct x.toNatClampNeg (cl_lt (by omega) (by omega))
                have k_243 : (1800 : Int32).toInt = 1800 := by decide
                have t_244 : ((1800 * x)).toInt = 1800 * (x).toInt := by
                  have z := ti_mul (a := 1800) (b := x) (by rw [show (1800 : Int32).toInt = 1800 from by decide]; omega) (by rw [show (1800 : Int32).toInt = 1800 from by decide]; omega)
                  rw [z, show (1800 : Int32).toInt = 1800 from by decide]
                have k_245 : (6 : Int32).toInt = 6 := by decide
                have t_246 : ((6 * k)).toInt = 6 * (k).toInt := by
                  have z := ti_mul (a := 6) (b := k) (by rw [show (6 : Int32).toInt = 6 from by decide]; omega) (by rw [show (6 : Int32).toInt = 6 from by decide]; omega)
                  rw [z, show (6 : Int32).toInt = 6 from by decide]
                have t_247 := ti_add (a := (1800 * x)) (b := (6 * k)) (by omega) (by omega)
                have k_248 : (4 : Int32).toInt = 4 := by decide
                have t_249 := ti_add (a := ((1800 * x) + (6 * k))) (b := 4) (by omega) (by omega)
                refine vin ?_ ?_
                all_goals (try generalize Int32.toInt (rw (((1800 * x) + (6 * k)) + 2).toNatClampNeg) = z0 at *; try generalize Int32.toInt (rw ((1800 * x) + (6 * k)).toNatClampNeg) = z1 at *; try generalize Int32.toInt (((1800 * x) + (6 * k)) + 4) = z2 at *; try generalize Int32.toInt ((1800 * x) + (6 * k)) = z3 at *; try generalize Int32.toInt (ct x.toNatClampNeg) = z4 at *; try generalize Int32.toInt (1800 * x) = z5 at *; try generalize Int32.toInt r_107.2.1 = z6 at *; try generalize Int32.toInt r_159.2.1 = z7 at *; try generalize Int32.toInt r_184.2.1 = z8 at *; try generalize Int32.toInt r_209.2.1 = z9 at *; try generalize Int32.toInt (6 * k) = z10 at *; try generalize Int32.toInt (1800 : Int32) = z11 at *; try generalize Int32.toInt wlz = z12 at *; try generalize Int32.toInt fi = z13 at *; try generalize Int32.toInt li = z14 at *; try generalize Int32.toInt xl = z15 at *; try generalize Int32.toInt (0 : Int32) = z16 at *; try generalize Int32.toInt (4 : Int32) = z17 at *; try generalize Int32.toInt (6 : Int32) = z18 at *; try generalize Int32.toInt k = z19 at *; try generalize Int32.toInt x = z20 at *; omega)
              refine va_iald hx hb hG.1 hP 1 2 rfl rfl b_238 dX9_write_232 ?_
              refine lv_istore (lv' := [(6, .int (rw (((1800 * x) + (6 * k)) + 4).toNatClampNeg)), (5, .int (rw (((1800 * x) + (6 * k)) + 3).toNatClampNeg)), (4, .int (rw (((1800 * x) + (6 * k)) + 2).toNatClampNeg)), (3, .int (rw (((1800 * x) + (6 * k)) + 1).toNatClampNeg)), (8, .int 0), (0, .ref h0), (1, .int x), (2, .int li), (7, .int nm), (9, .int k), (10, .int ((1800 * x) + (6 * k)))]) hx hb dX9_write_233 hl (by decide) rfl (fun ls hl => ?_)
              refine lv_aload_n hx hb dX9_write_235 rfl (lv_at hl 5 rfl) ?_
              refine va_get (D := (dC, dI)) (ci := 9) (v := .ref a0) (C := RX9) (T := TX9) (N := 17) hx hb hts inc_X9_write_9 hown hG.1 hP 0 rfl rfl 1 (by decide) (hts (.fieldLink RX9 13 "MappingDeskModel" "rows" "[I") (by decide +kernel)) (fun _ h9 => h9) rfl dX9_write_236 ?_
              refine lv_iload hx hb dX9_write_239 (lv_at hl 10 rfl) ?_
              refine lv_iconst (v := 5) hx hb dX9_write_241 (by decide) ?_
              refine lv_iadd hx hb dX9_write_242 ?_
              have b_252 : vp_in (((1800 * x) + (6 * k)) + 5) 3600 := by
                have hq9 := hlin (by omega) (by omega) k (by omega) (by omega)
                have q_253 := i_le c_90
                have k_254 : (0 : Int32).toInt = 0 := by decide
                have q_255 := i_ne c_91
                have q_256 := i_le c_134
                try have hq7 := hct x.toNatClampNeg (cl_lt (by omega) (by omega))
                have k_257 : (1800 : Int32).toInt = 1800 := by decide
                have t_258 : ((1800 * x)).toInt = 1800 * (x).toInt := by
                  have z := ti_mul (a := 1800) (b := x) (by rw [show (1800 : Int32).toInt = 1800 from by decide]; omega) (by rw [show (1800 : Int32).toInt = 1800 from by decide]; omega)
                  rw [z, show (1800 : Int32).toInt = 1800 from by decide]
                have k_259 : (6 : Int32).toInt = 6 := by decide
                have t_260 : ((6 * k)).toInt = 6 * (k).toInt := by
                  have z := ti_mul (a := 6) (b := k) (by rw [show (6 : Int32).toInt = 6 from by decide]; omega) (by rw [show (6 : Int32).toInt = 6 from by decide]; omega)
                  rw [z, show (6 : Int32).toInt = 6 from by decide]
                have t_261 := ti_add (a := (1800 * x)) (b := (6 * k)) (by omega) (by omega)
                have k_262 : (5 : Int32).toInt = 5 := by decide
                have t_263 := ti_add (a := ((1800 * x) + (6 * k))) (b := 5) (by omega) (by omega)
                refine vin ?_ ?_
                all_goals (try generalize Int32.toInt (rw (((1800 * x) + (6 * k)) + 2).toNatClampNeg) = z0 at *; try generalize Int32.toInt (rw ((1800 * x) + (6 * k)).toNatClampNeg) = z1 at *; try generalize Int32.toInt (((1800 * x) + (6 * k)) + 5) = z2 at *; try generalize Int32.toInt ((1800 * x) + (6 * k)) = z3 at *; try generalize Int32.toInt (ct x.toNatClampNeg) = z4 at *; try generalize Int32.toInt (1800 * x) = z5 at *; try generalize Int32.toInt r_107.2.1 = z6 at *; try generalize Int32.toInt r_159.2.1 = z7 at *; try generalize Int32.toInt r_184.2.1 = z8 at *; try generalize Int32.toInt r_209.2.1 = z9 at *; try generalize Int32.toInt (6 * k) = z10 at *; try generalize Int32.toInt (1800 : Int32) = z11 at *; try generalize Int32.toInt wlz = z12 at *; try generalize Int32.toInt fi = z13 at *; try generalize Int32.toInt li = z14 at *; try generalize Int32.toInt xl = z15 at *; try generalize Int32.toInt (0 : Int32) = z16 at *; try generalize Int32.toInt (5 : Int32) = z17 at *; try generalize Int32.toInt (6 : Int32) = z18 at *; try generalize Int32.toInt k = z19 at *; try generalize Int32.toInt x = z20 at *; omega)
              refine va_iald hx hb hG.1 hP 1 2 rfl rfl b_252 dX9_write_243 ?_
              refine lv_if_ge (tgt := 250) hx hb dX9_write_244 (by decide) (fun c_266 => ?_) (fun c_266 => ?_)
              · rw [if_pos c_266] at hR
                refine lv_aload_n hx hb dX9_write_250 rfl (lv_at hl 5 rfl) ?_
                refine lv_aload_n hx hb dX9_write_251 rfl (lv_at hl 5 rfl) ?_
                refine va_get (D := (dC, dI)) (ci := 9) (v := .ref a0) (C := RX9) (T := TX9) (N := 17) hx hb hts inc_X9_write_9 hown hG.1 hP 0 rfl rfl 1 (by decide) (hts (.fieldLink RX9 13 "MappingDeskModel" "rows" "[I") (by decide +kernel)) (fun _ h9 => h9) rfl dX9_write_252 ?_
                refine lv_iload hx hb dX9_write_255 (lv_at hl 10 rfl) ?_
                refine lv_iconst (v := 5) hx hb dX9_write_257 (by decide) ?_
                refine lv_iadd hx hb dX9_write_258 ?_
                have b_267 : vp_in (((1800 * x) + (6 * k)) + 5) 3600 := by
                  have hq9 := hlin (by omega) (by omega) k (by omega) (by omega)
                  have q_268 := i_le c_90
                  have k_269 : (0 : Int32).toInt = 0 := by decide
                  have q_270 := i_ne c_91
                  have q_271 := i_le c_134
                  have q_272 := i_le c_266
                  try have hq7 := hct x.toNatClampNeg (cl_lt (by omega) (by omega))
                  have k_273 : (1800 : Int32).toInt = 1800 := by decide
                  have t_274 : ((1800 * x)).toInt = 1800 * (x).toInt := by
                    have z := ti_mul (a := 1800) (b := x) (by rw [show (1800 : Int32).toInt = 1800 from by decide]; omega) (by rw [show (1800 : Int32).toInt = 1800 from by decide]; omega)
                    rw [z, show (1800 : Int32).toInt = 1800 from by decide]
                  have k_275 : (6 : Int32).toInt = 6 := by decide
                  have t_276 : ((6 * k)).toInt = 6 * (k).toInt := by
                    have z := ti_mul (a := 6) (b := k) (by rw [show (6 : Int32).toInt = 6 from by decide]; omega) (by rw [show (6 : Int32).toInt = 6 from by decide]; omega)
                    rw [z, show (6 : Int32).toInt = 6 from by decide]
                  have t_277 := ti_add (a := (1800 * x)) (b := (6 * k)) (by omega) (by omega)
                  have k_278 : (5 : Int32).toInt = 5 := by decide
                  have t_279 := ti_add (a := ((1800 * x) + (6 * k))) (b := 5) (by omega) (by omega)
                  refine vin ?_ ?_
                  all_goals (try generalize Int32.toInt (rw (((1800 * x) + (6 * k)) + 2).toNatClampNeg) = z0 at *; try generalize Int32.toInt (rw (((1800 * x) + (6 * k)) + 5).toNatClampNeg) = z1 at *; try generalize Int32.toInt (rw ((1800 * x) + (6 * k)).toNatClampNeg) = z2 at *; try generalize Int32.toInt (((1800 * x) + (6 * k)) + 5) = z3 at *; try generalize Int32.toInt ((1800 * x) + (6 * k)) = z4 at *; try generalize Int32.toInt (ct x.toNatClampNeg) = z5 at *; try generalize Int32.toInt (1800 * x) = z6 at *; try generalize Int32.toInt r_107.2.1 = z7 at *; try generalize Int32.toInt r_159.2.1 = z8 at *; try generalize Int32.toInt r_184.2.1 = z9 at *; try generalize Int32.toInt r_209.2.1 = z10 at *; try generalize Int32.toInt (6 * k) = z11 at *; try generalize Int32.toInt (1800 : Int32) = z12 at *; try generalize Int32.toInt wlz = z13 at *; try generalize Int32.toInt fi = z14 at *; try generalize Int32.toInt li = z15 at *; try generalize Int32.toInt xl = z16 at *; try generalize Int32.toInt (0 : Int32) = z17 at *; try generalize Int32.toInt (5 : Int32) = z18 at *; try generalize Int32.toInt (6 : Int32) = z19 at *; try generalize Int32.toInt k = z20 at *; try generalize Int32.toInt x = z21 at *; omega)
                refine va_iald hx hb hG.1 hP 1 2 rfl rfl b_267 dX9_write_259 ?_
                refine lv_iload hx hb dX9_write_260 (lv_at hl 8 rfl) ?_
                refine lv_isub hx hb dX9_write_262 ?_
                have p_282 : 0 ≤ r_209.2.1.toInt := by
                  have hq9 := hlin (by omega) (by omega) k (by omega) (by omega)
                  have q_283 := i_le c_90
                  have k_284 : (0 : Int32).toInt = 0 := by decide
                  have q_285 := i_ne c_91
                  have q_286 := i_le c_134
                  have q_287 := i_le c_266
                  try have hq7 := hct x.toNatClampNeg (cl_lt (by omega) (by omega))
                  try generalize Int32.toInt (rw (((1800 * x) + (6 * k)) + 2).toNatClampNeg) = z0 at *
                  try generalize Int32.toInt (rw (((1800 * x) + (6 * k)) + 5).toNatClampNeg) = z1 at *
                  try generalize Int32.toInt (rw ((1800 * x) + (6 * k)).toNatClampNeg) = z2 at *
                  try generalize Int32.toInt (ct x.toNatClampNeg) = z3 at *
                  try generalize Int32.toInt r_107.2.1 = z4 at *
                  try generalize Int32.toInt r_159.2.1 = z5 at *
                  try generalize Int32.toInt r_184.2.1 = z6 at *
                  try generalize Int32.toInt r_209.2.1 = z7 at *
                  try generalize Int32.toInt wlz = z8 at *
                  try generalize Int32.toInt fi = z9 at *
                  try generalize Int32.toInt li = z10 at *
                  try generalize Int32.toInt xl = z11 at *
                  try generalize Int32.toInt (0 : Int32) = z12 at *
                  try generalize Int32.toInt k = z13 at *
                  try generalize Int32.toInt x = z14 at *
                  first | omega | exact ⟨by omega, by omega⟩
                have p_288 : r_209.2.1.toInt ≤ 6000 := by
                  have hq9 := hlin (by omega) (by omega) k (by omega) (by omega)
                  have q_289 := i_le c_90
                  have k_290 : (0 : Int32).toInt = 0 := by decide
                  have q_291 := i_ne c_91
                  have q_292 := i_le c_134
                  have q_293 := i_le c_266
                  try have hq7 := hct x.toNatClampNeg (cl_lt (by omega) (by omega))
                  try generalize Int32.toInt (rw (((1800 * x) + (6 * k)) + 2).toNatClampNeg) = z0 at *
                  try generalize Int32.toInt (rw (((1800 * x) + (6 * k)) + 5).toNatClampNeg) = z1 at *
                  try generalize Int32.toInt (rw ((1800 * x) + (6 * k)).toNatClampNeg) = z2 at *
                  try generalize Int32.toInt (ct x.toNatClampNeg) = z3 at *
                  try generalize Int32.toInt r_107.2.1 = z4 at *
                  try generalize Int32.toInt r_159.2.1 = z5 at *
                  try generalize Int32.toInt r_184.2.1 = z6 at *
                  try generalize Int32.toInt r_209.2.1 = z7 at *
                  try generalize Int32.toInt wlz = z8 at *
                  try generalize Int32.toInt fi = z9 at *
                  try generalize Int32.toInt li = z10 at *
                  try generalize Int32.toInt xl = z11 at *
                  try generalize Int32.toInt (0 : Int32) = z12 at *
                  try generalize Int32.toInt k = z13 at *
                  try generalize Int32.toInt x = z14 at *
                  first | omega | exact ⟨by omega, by omega⟩
                have hPc := hP.sub (ws' := [(h0, .inr (9, [.int 0, .ref a0, .ref a1, .ref a2, .int dc, .ref a3, .int tl, .ref a4, .int xl, .int fo, .int fa, .ref a5, .int mn, .ref a6, .int r_209.1, .ref a7, .int r_209.2.1])), (a7, .inl (cB, 6000, .inl r_209.2.2))]) [0, 4] rfl
                have hDc := hD.sub (ws' := [(h0, .inr (9, [.int 0, .ref a0, .ref a1, .ref a2, .int dc, .ref a3, .int tl, .ref a4, .int xl, .int fo, .int fa, .ref a5, .int mn, .ref a6, .int r_209.1, .ref a7, .int r_209.2.1])), (a7, .inl (cB, 6000, .inl r_209.2.2))]) [0, 4] (by decide) rfl
                have hFc := va_free (wc := [(h0, .inr (9, [.int 0, .ref a0, .ref a1, .ref a2, .int dc, .ref a3, .int tl, .ref a4, .int xl, .int fo, .int fa, .ref a5, .int mn, .ref a6, .int r_209.1, .ref a7, .int r_209.2.1])), (a7, .inl (cB, 6000, .inl r_209.2.2))]) hD hS hA [0, 4] rfl
                refine va_callv (va_runV (As := [.int ((rw (((1800 * x) + (6 * k)) + 5).toNatClampNeg) - nm)]) (rest := []) ⟨hx, hb, hml, hown, hts⟩ (c_X9_addNumber l dC dI cB cC cI cJ H.size h0 a0 a1 a2 a3 a4 a5 a6 a7 0 dc tl xl fo fa mn r_209.1 r_209.2.1 r_209.2.2 ((rw (((1800 * x) + (6 * k)) + 5).toNatClampNeg) - nm) p_282 p_288) (cwV 1 hts gX9_write_X9_addNumber rfl rfl rfl (by decide +kernel) ⟨(Nat.le_of_ble_eq_true rfl), (Nat.le_of_ble_eq_true rfl)⟩) ⟨cP_blind, va_recv hG.1 hPc (ci := 9) (q0 := 0) rfl rfl, cP_pre hPc hG hDc⟩ rfl rfl hl.1 rfl (lv_room (Nat.le_of_ble_eq_true rfl)) dX9_write_263 ⟨Nat.le_of_ble_eq_true rfl, Nat.le_of_ble_eq_true rfl⟩) hS (fun q _ h => hFc q h) hFc (fun u t H1 locs ht hvm hw hB hz1 hk1 hS => ?_)
                obtain ⟨hP1, hD1⟩ := hB
                rw [ht] at hP1
                generalize hr_294 : fX9_addNumber 0 dc tl xl fo fa mn r_209.1 r_209.2.1 r_209.2.2 ((rw (((1800 * x) + (6 * k)) + 5).toNatClampNeg) - nm) = r_294 at hP1 hD1 hw
                have er_294_0 := hw
                rw [bnd_eq hr_294] at hR
                obtain ⟨hP, hD⟩ := va_join (wr := [(a0, .inl (cI, 3600, .inl rw)), (a1, .inl (cI, 2, .inl ct)), (a4, .inl (cB, 6000, .inl tx))]) (w1 := [(h0, .inr (9, [.int 0, .ref a0, .ref a1, .ref a2, .int dc, .ref a3, .int tl, .ref a4, .int xl, .int fo, .int fa, .ref a5, .int mn, .ref a6, .int r_294.1, .ref a7, .int r_294.2.1])), (a7, .inl (cB, 6000, .inl r_294.2.2))]) hP hD [0, 4] [1, 2, 3] rfl rfl (by decide) (by decide) hk1 hFc hP1 hD1
                generalize H1 = H at hP hS ⊢
                have hP := hP.sub (ws' := [(h0, .inr (9, [.int 0, .ref a0, .ref a1, .ref a2, .int dc, .ref a3, .int tl, .ref a4, .int xl, .int fo, .int fa, .ref a5, .int mn, .ref a6, .int r_294.1, .ref a7, .int r_294.2.1])), (a0, .inl (cI, 3600, .inl rw)), (a1, .inl (cI, 2, .inl ct)), (a4, .inl (cB, 6000, .inl tx)), (a7, .inl (cB, 6000, .inl r_294.2.2))]) [3, 0, 1, 2, 4] rfl
                have hD := hD.sub (ws' := [(h0, .inr (9, [.int 0, .ref a0, .ref a1, .ref a2, .int dc, .ref a3, .int tl, .ref a4, .int xl, .int fo, .int fa, .ref a5, .int mn, .ref a6, .int r_294.1, .ref a7, .int r_294.2.1])), (a0, .inl (cI, 3600, .inl rw)), (a1, .inl (cI, 2, .inl ct)), (a4, .inl (cB, 6000, .inl tx)), (a7, .inl (cB, 6000, .inl r_294.2.2))]) [3, 0, 1, 2, 4] (by decide) rfl
                refine lv_aload_n hx hb dX9_write_266 rfl (lv_at hl 5 rfl) ?_
                refine va_get (D := (dC, dI)) (ci := 9) (v := .ref a0) (C := RX9) (T := TX9) (N := 17) hx hb hts inc_X9_write_9 hown hG.1 hP 0 rfl rfl 1 (by decide) (hts (.fieldLink RX9 13 "MappingDeskModel" "rows" "[I") (by decide +kernel)) (fun _ h9 => h9) rfl dX9_write_267 ?_
                refine lv_iload hx hb dX9_write_270 (lv_at hl 10 rfl) ?_
                refine lv_iconst (v := 5) hx hb dX9_write_272 (by decide) ?_
                refine lv_iadd hx hb dX9_write_273 ?_
                have b_295 : vp_in (((1800 * x) + (6 * k)) + 5) 3600 := by
                  have hq9 := hlin (by omega) (by omega) k (by omega) (by omega)
                  have q_296 := i_le c_90
                  have k_297 : (0 : Int32).toInt = 0 := by decide
                  have q_298 := i_ne c_91
                  have q_299 := i_le c_134
                  have q_300 := i_le c_266
                  try have hq7 := hct x.toNatClampNeg (cl_lt (by omega) (by omega))
                  have k_301 : (1800 : Int32).toInt = 1800 := by decide
                  have t_302 : ((1800 * x)).toInt = 1800 * (x).toInt := by
                    have z := ti_mul (a := 1800) (b := x) (by rw [show (1800 : Int32).toInt = 1800 from by decide]; omega) (by rw [show (1800 : Int32).toInt = 1800 from by decide]; omega)
                    rw [z, show (1800 : Int32).toInt = 1800 from by decide]
                  have k_303 : (6 : Int32).toInt = 6 := by decide
                  have t_304 : ((6 * k)).toInt = 6 * (k).toInt := by
                    have z := ti_mul (a := 6) (b := k) (by rw [show (6 : Int32).toInt = 6 from by decide]; omega) (by rw [show (6 : Int32).toInt = 6 from by decide]; omega)
                    rw [z, show (6 : Int32).toInt = 6 from by decide]
                  have t_305 := ti_add (a := (1800 * x)) (b := (6 * k)) (by omega) (by omega)
                  have k_306 : (5 : Int32).toInt = 5 := by decide
                  have t_307 := ti_add (a := ((1800 * x) + (6 * k))) (b := 5) (by omega) (by omega)
                  refine vin ?_ ?_
                  all_goals (try generalize Int32.toInt (rw (((1800 * x) + (6 * k)) + 2).toNatClampNeg) = z0 at *; try generalize Int32.toInt (rw (((1800 * x) + (6 * k)) + 5).toNatClampNeg) = z1 at *; try generalize Int32.toInt (rw ((1800 * x) + (6 * k)).toNatClampNeg) = z2 at *; try generalize Int32.toInt (((1800 * x) + (6 * k)) + 5) = z3 at *; try generalize Int32.toInt ((1800 * x) + (6 * k)) = z4 at *; try generalize Int32.toInt (ct x.toNatClampNeg) = z5 at *; try generalize Int32.toInt (1800 * x) = z6 at *; try generalize Int32.toInt r_107.2.1 = z7 at *; try generalize Int32.toInt r_159.2.1 = z8 at *; try generalize Int32.toInt r_184.2.1 = z9 at *; try generalize Int32.toInt r_209.2.1 = z10 at *; try generalize Int32.toInt r_294.2.1 = z11 at *; try generalize Int32.toInt (6 * k) = z12 at *; try generalize Int32.toInt (1800 : Int32) = z13 at *; try generalize Int32.toInt wlz = z14 at *; try generalize Int32.toInt fi = z15 at *; try generalize Int32.toInt li = z16 at *; try generalize Int32.toInt xl = z17 at *; try generalize Int32.toInt (0 : Int32) = z18 at *; try generalize Int32.toInt (5 : Int32) = z19 at *; try generalize Int32.toInt (6 : Int32) = z20 at *; try generalize Int32.toInt k = z21 at *; try generalize Int32.toInt x = z22 at *; omega)
                refine va_iald hx hb hG.1 hP 1 2 rfl rfl b_295 dX9_write_274 ?_
                refine lv_istore (lv' := [(7, .int (rw (((1800 * x) + (6 * k)) + 5).toNatClampNeg)), (6, .int (rw (((1800 * x) + (6 * k)) + 4).toNatClampNeg)), (5, .int (rw (((1800 * x) + (6 * k)) + 3).toNatClampNeg)), (4, .int (rw (((1800 * x) + (6 * k)) + 2).toNatClampNeg)), (3, .int (rw (((1800 * x) + (6 * k)) + 1).toNatClampNeg)), (8, .int 0), (0, .ref h0), (1, .int x), (2, .int li), (9, .int k), (10, .int ((1800 * x) + (6 * k)))]) hx hb dX9_write_275 hl (by decide) rfl (fun ls hl => ?_)
                refine lv_iinc (v := (k + 1)) (lv' := [(9, .int (k + 1)), (7, .int (rw (((1800 * x) + (6 * k)) + 5).toNatClampNeg)), (6, .int (rw (((1800 * x) + (6 * k)) + 4).toNatClampNeg)), (5, .int (rw (((1800 * x) + (6 * k)) + 3).toNatClampNeg)), (4, .int (rw (((1800 * x) + (6 * k)) + 2).toNatClampNeg)), (3, .int (rw (((1800 * x) + (6 * k)) + 1).toNatClampNeg)), (8, .int 0), (0, .ref h0), (1, .int x), (2, .int li), (10, .int ((1800 * x) + (6 * k)))]) hx hb dX9_write_277 hl (k := 9) rfl rfl (by decide) rfl (fun ls hl => ?_)
                refine lv_goto (tgt := 48) hx hb dX9_write_280 (by decide) ?_
                have v_315 : 0 ≤ x.toInt := by
                  first | exact hx0 | assumption
                have v_316 : x.toInt ≤ 1 := by
                  first | exact hx1 | assumption
                have v_317 : 0 ≤ ((k + 1)).toInt := by
                  have hq9 := hlin (by omega) (by omega) k (by omega) (by omega)
                  have q_318 := i_le c_90
                  have k_319 : (0 : Int32).toInt = 0 := by decide
                  have q_320 := i_ne c_91
                  have q_321 := i_le c_134
                  have q_322 := i_le c_266
                  try have hq7 := hct x.toNatClampNeg (cl_lt (by omega) (by omega))
                  have k_323 : (1 : Int32).toInt = 1 := by decide
                  have t_324 := ti_add (a := k) (b := 1) (by omega) (by omega)
                  try generalize Int32.toInt (rw (((1800 * x) + (6 * k)) + 2).toNatClampNeg) = z0 at *
                  try generalize Int32.toInt (rw (((1800 * x) + (6 * k)) + 5).toNatClampNeg) = z1 at *
                  try generalize Int32.toInt (rw ((1800 * x) + (6 * k)).toNatClampNeg) = z2 at *
                  try generalize Int32.toInt (ct x.toNatClampNeg) = z3 at *
                  try generalize Int32.toInt r_107.2.1 = z4 at *
                  try generalize Int32.toInt r_159.2.1 = z5 at *
                  try generalize Int32.toInt r_184.2.1 = z6 at *
                  try generalize Int32.toInt r_209.2.1 = z7 at *
                  try generalize Int32.toInt r_294.2.1 = z8 at *
                  try generalize Int32.toInt (k + 1) = z9 at *
                  try generalize Int32.toInt wlz = z10 at *
                  try generalize Int32.toInt fi = z11 at *
                  try generalize Int32.toInt li = z12 at *
                  try generalize Int32.toInt xl = z13 at *
                  try generalize Int32.toInt (0 : Int32) = z14 at *
                  try generalize Int32.toInt (1 : Int32) = z15 at *
                  try generalize Int32.toInt k = z16 at *
                  try generalize Int32.toInt x = z17 at *
                  omega
                have v_325 : 0 ≤ li.toInt := by
                  have hq9 := hlin (by omega) (by omega) k (by omega) (by omega)
                  have q_326 := i_le c_90
                  have k_327 : (0 : Int32).toInt = 0 := by decide
                  have q_328 := i_ne c_91
                  have q_329 := i_le c_134
                  have q_330 := i_le c_266
                  try have hq7 := hct x.toNatClampNeg (cl_lt (by omega) (by omega))
                  try generalize Int32.toInt (rw (((1800 * x) + (6 * k)) + 2).toNatClampNeg) = z0 at *
                  try generalize Int32.toInt (rw (((1800 * x) + (6 * k)) + 5).toNatClampNeg) = z1 at *
                  try generalize Int32.toInt (rw ((1800 * x) + (6 * k)).toNatClampNeg) = z2 at *
                  try generalize Int32.toInt (ct x.toNatClampNeg) = z3 at *
                  try generalize Int32.toInt r_107.2.1 = z4 at *
                  try generalize Int32.toInt r_159.2.1 = z5 at *
                  try generalize Int32.toInt r_184.2.1 = z6 at *
                  try generalize Int32.toInt r_209.2.1 = z7 at *
                  try generalize Int32.toInt r_294.2.1 = z8 at *
                  try generalize Int32.toInt wlz = z9 at *
                  try generalize Int32.toInt fi = z10 at *
                  try generalize Int32.toInt li = z11 at *
                  try generalize Int32.toInt xl = z12 at *
                  try generalize Int32.toInt (0 : Int32) = z13 at *
                  try generalize Int32.toInt k = z14 at *
                  try generalize Int32.toInt x = z15 at *
                  omega
                have v_331 : li.toInt ≤ 199 := by
                  have hq9 := hlin (by omega) (by omega) k (by omega) (by omega)
                  have q_332 := i_le c_90
                  have k_333 : (0 : Int32).toInt = 0 := by decide
                  have q_334 := i_ne c_91
                  have q_335 := i_le c_134
                  have q_336 := i_le c_266
                  try have hq7 := hct x.toNatClampNeg (cl_lt (by omega) (by omega))
                  try generalize Int32.toInt (rw (((1800 * x) + (6 * k)) + 2).toNatClampNeg) = z0 at *
                  try generalize Int32.toInt (rw (((1800 * x) + (6 * k)) + 5).toNatClampNeg) = z1 at *
                  try generalize Int32.toInt (rw ((1800 * x) + (6 * k)).toNatClampNeg) = z2 at *
                  try generalize Int32.toInt (ct x.toNatClampNeg) = z3 at *
                  try generalize Int32.toInt r_107.2.1 = z4 at *
                  try generalize Int32.toInt r_159.2.1 = z5 at *
                  try generalize Int32.toInt r_184.2.1 = z6 at *
                  try generalize Int32.toInt r_209.2.1 = z7 at *
                  try generalize Int32.toInt r_294.2.1 = z8 at *
                  try generalize Int32.toInt wlz = z9 at *
                  try generalize Int32.toInt fi = z10 at *
                  try generalize Int32.toInt li = z11 at *
                  try generalize Int32.toInt xl = z12 at *
                  try generalize Int32.toInt (0 : Int32) = z13 at *
                  try generalize Int32.toInt k = z14 at *
                  try generalize Int32.toInt x = z15 at *
                  omega
                have v_337 : 0 ≤ r_294.2.1.toInt := by
                  have hq9 := hlin (by omega) (by omega) k (by omega) (by omega)
                  have q_338 := i_le c_90
                  have k_339 : (0 : Int32).toInt = 0 := by decide
                  have q_340 := i_ne c_91
                  have q_341 := i_le c_134
                  have q_342 := i_le c_266
                  try have hq7 := hct x.toNatClampNeg (cl_lt (by omega) (by omega))
                  try generalize Int32.toInt (rw (((1800 * x) + (6 * k)) + 2).toNatClampNeg) = z0 at *
                  try generalize Int32.toInt (rw (((1800 * x) + (6 * k)) + 5).toNatClampNeg) = z1 at *
                  try generalize Int32.toInt (rw ((1800 * x) + (6 * k)).toNatClampNeg) = z2 at *
                  try generalize Int32.toInt (ct x.toNatClampNeg) = z3 at *
                  try generalize Int32.toInt r_107.2.1 = z4 at *
                  try generalize Int32.toInt r_159.2.1 = z5 at *
                  try generalize Int32.toInt r_184.2.1 = z6 at *
                  try generalize Int32.toInt r_209.2.1 = z7 at *
                  try generalize Int32.toInt r_294.2.1 = z8 at *
                  try generalize Int32.toInt wlz = z9 at *
                  try generalize Int32.toInt fi = z10 at *
                  try generalize Int32.toInt li = z11 at *
                  try generalize Int32.toInt xl = z12 at *
                  try generalize Int32.toInt (0 : Int32) = z13 at *
                  try generalize Int32.toInt k = z14 at *
                  try generalize Int32.toInt x = z15 at *
                  omega
                have v_343 : r_294.2.1.toInt ≤ 6000 := by
                  have hq9 := hlin (by omega) (by omega) k (by omega) (by omega)
                  have q_344 := i_le c_90
                  have k_345 : (0 : Int32).toInt = 0 := by decide
                  have q_346 := i_ne c_91
                  have q_347 := i_le c_134
                  have q_348 := i_le c_266
                  try have hq7 := hct x.toNatClampNeg (cl_lt (by omega) (by omega))
                  try generalize Int32.toInt (rw (((1800 * x) + (6 * k)) + 2).toNatClampNeg) = z0 at *
                  try generalize Int32.toInt (rw (((1800 * x) + (6 * k)) + 5).toNatClampNeg) = z1 at *
                  try generalize Int32.toInt (rw ((1800 * x) + (6 * k)).toNatClampNeg) = z2 at *
                  try generalize Int32.toInt (ct x.toNatClampNeg) = z3 at *
                  try generalize Int32.toInt r_107.2.1 = z4 at *
                  try generalize Int32.toInt r_159.2.1 = z5 at *
                  try generalize Int32.toInt r_184.2.1 = z6 at *
                  try generalize Int32.toInt r_209.2.1 = z7 at *
                  try generalize Int32.toInt r_294.2.1 = z8 at *
                  try generalize Int32.toInt wlz = z9 at *
                  try generalize Int32.toInt fi = z10 at *
                  try generalize Int32.toInt li = z11 at *
                  try generalize Int32.toInt xl = z12 at *
                  try generalize Int32.toInt (0 : Int32) = z13 at *
                  try generalize Int32.toInt k = z14 at *
                  try generalize Int32.toInt x = z15 at *
                  omega
                have v_349 : ((k + 1)).toInt ≤ (ct x.toNatClampNeg).toInt := by
                  have hq9 := hlin (by omega) (by omega) k (by omega) (by omega)
                  have q_350 := i_le c_90
                  have k_351 : (0 : Int32).toInt = 0 := by decide
                  have q_352 := i_ne c_91
                  have q_353 := i_le c_134
                  have q_354 := i_le c_266
                  try have hq7 := hct x.toNatClampNeg (cl_lt (by omega) (by omega))
                  have k_355 : (1 : Int32).toInt = 1 := by decide
                  have t_356 := ti_add (a := k) (b := 1) (by omega) (by omega)
                  try generalize Int32.toInt (rw (((1800 * x) + (6 * k)) + 2).toNatClampNeg) = z0 at *
                  try generalize Int32.toInt (rw (((1800 * x) + (6 * k)) + 5).toNatClampNeg) = z1 at *
                  try generalize Int32.toInt (rw ((1800 * x) + (6 * k)).toNatClampNeg) = z2 at *
                  try generalize Int32.toInt (ct x.toNatClampNeg) = z3 at *
                  try generalize Int32.toInt r_107.2.1 = z4 at *
                  try generalize Int32.toInt r_159.2.1 = z5 at *
                  try generalize Int32.toInt r_184.2.1 = z6 at *
                  try generalize Int32.toInt r_209.2.1 = z7 at *
                  try generalize Int32.toInt r_294.2.1 = z8 at *
                  try generalize Int32.toInt (k + 1) = z9 at *
                  try generalize Int32.toInt wlz = z10 at *
                  try generalize Int32.toInt fi = z11 at *
                  try generalize Int32.toInt li = z12 at *
                  try generalize Int32.toInt xl = z13 at *
                  try generalize Int32.toInt (0 : Int32) = z14 at *
                  try generalize Int32.toInt (1 : Int32) = z15 at *
                  try generalize Int32.toInt k = z16 at *
                  try generalize Int32.toInt x = z17 at *
                  omega
                have v_357 : 3 * ((ct x.toNatClampNeg).toInt - ((k + 1)).toInt) + (200 - li.toInt) + 1 < ((n : Nat) : Int) := by
                  have hq9 := hlin (by omega) (by omega) k (by omega) (by omega)
                  have q_358 := i_le c_90
                  have k_359 : (0 : Int32).toInt = 0 := by decide
                  have q_360 := i_ne c_91
                  have q_361 := i_le c_134
                  have q_362 := i_le c_266
                  try have hq7 := hct x.toNatClampNeg (cl_lt (by omega) (by omega))
                  have k_363 : (1 : Int32).toInt = 1 := by decide
                  have t_364 := ti_add (a := k) (b := 1) (by omega) (by omega)
                  try generalize Int32.toInt (rw (((1800 * x) + (6 * k)) + 2).toNatClampNeg) = z0 at *
                  try generalize Int32.toInt (rw (((1800 * x) + (6 * k)) + 5).toNatClampNeg) = z1 at *
                  try generalize Int32.toInt (rw ((1800 * x) + (6 * k)).toNatClampNeg) = z2 at *
                  try generalize Int32.toInt (ct x.toNatClampNeg) = z3 at *
                  try generalize Int32.toInt r_107.2.1 = z4 at *
                  try generalize Int32.toInt r_159.2.1 = z5 at *
                  try generalize Int32.toInt r_184.2.1 = z6 at *
                  try generalize Int32.toInt r_209.2.1 = z7 at *
                  try generalize Int32.toInt r_294.2.1 = z8 at *
                  try generalize Int32.toInt (k + 1) = z9 at *
                  try generalize Int32.toInt wlz = z10 at *
                  try generalize Int32.toInt fi = z11 at *
                  try generalize Int32.toInt li = z12 at *
                  try generalize Int32.toInt xl = z13 at *
                  try generalize Int32.toInt (0 : Int32) = z14 at *
                  try generalize Int32.toInt (1 : Int32) = z15 at *
                  try generalize Int32.toInt k = z16 at *
                  try generalize Int32.toInt x = z17 at *
                  omega
                exact ih_48 (li) ((rw (((1800 * x) + (6 * k)) + 1).toNatClampNeg)) ((rw (((1800 * x) + (6 * k)) + 2).toNatClampNeg)) ((rw (((1800 * x) + (6 * k)) + 3).toNatClampNeg)) ((rw (((1800 * x) + (6 * k)) + 4).toNatClampNeg)) ((rw (((1800 * x) + (6 * k)) + 5).toNatClampNeg)) (0) ((k + 1)) (r_294.1) (r_294.2.1) (r_294.2.2) _ _ ls hR v_315 v_316 v_317 v_325 v_331 v_337 v_343 v_349 v_357 hP hD hS (lv_sub hl [7, 8, 9, 5, 4, 3, 2, 1, 6, 0] rfl)
              · rw [if_neg c_266] at hR
                refine lv_goto (tgt := 277) hx hb dX9_write_247 (by decide) ?_
                refine lv_iinc (v := (k + 1)) (lv' := [(9, .int (k + 1)), (6, .int (rw (((1800 * x) + (6 * k)) + 4).toNatClampNeg)), (5, .int (rw (((1800 * x) + (6 * k)) + 3).toNatClampNeg)), (4, .int (rw (((1800 * x) + (6 * k)) + 2).toNatClampNeg)), (3, .int (rw (((1800 * x) + (6 * k)) + 1).toNatClampNeg)), (8, .int 0), (0, .ref h0), (1, .int x), (2, .int li), (7, .int nm), (10, .int ((1800 * x) + (6 * k)))]) hx hb dX9_write_277 hl (k := 9) rfl rfl (by decide) rfl (fun ls hl => ?_)
                refine lv_goto (tgt := 48) hx hb dX9_write_280 (by decide) ?_
                have v_370 : 0 ≤ x.toInt := by
                  first | exact hx0 | assumption
                have v_371 : x.toInt ≤ 1 := by
                  first | exact hx1 | assumption
                have v_372 : 0 ≤ ((k + 1)).toInt := by
                  have hq9 := hlin (by omega) (by omega) k (by omega) (by omega)
                  have q_373 := i_le c_90
                  have k_374 : (0 : Int32).toInt = 0 := by decide
                  have q_375 := i_ne c_91
                  have q_376 := i_le c_134
                  have q_377 := i_nle c_266
                  try have hq7 := hct x.toNatClampNeg (cl_lt (by omega) (by omega))
                  have k_378 : (1 : Int32).toInt = 1 := by decide
                  have t_379 := ti_add (a := k) (b := 1) (by omega) (by omega)
                  try generalize Int32.toInt (rw (((1800 * x) + (6 * k)) + 2).toNatClampNeg) = z0 at *
                  try generalize Int32.toInt (rw (((1800 * x) + (6 * k)) + 5).toNatClampNeg) = z1 at *
                  try generalize Int32.toInt (rw ((1800 * x) + (6 * k)).toNatClampNeg) = z2 at *
                  try generalize Int32.toInt (ct x.toNatClampNeg) = z3 at *
                  try generalize Int32.toInt r_107.2.1 = z4 at *
                  try generalize Int32.toInt r_159.2.1 = z5 at *
                  try generalize Int32.toInt r_184.2.1 = z6 at *
                  try generalize Int32.toInt r_209.2.1 = z7 at *
                  try generalize Int32.toInt (k + 1) = z8 at *
                  try generalize Int32.toInt wlz = z9 at *
                  try generalize Int32.toInt fi = z10 at *
                  try generalize Int32.toInt li = z11 at *
                  try generalize Int32.toInt xl = z12 at *
                  try generalize Int32.toInt (0 : Int32) = z13 at *
                  try generalize Int32.toInt (1 : Int32) = z14 at *
                  try generalize Int32.toInt k = z15 at *
                  try generalize Int32.toInt x = z16 at *
                  omega
                have v_380 : 0 ≤ li.toInt := by
                  have hq9 := hlin (by omega) (by omega) k (by omega) (by omega)
                  have q_381 := i_le c_90
                  have k_382 : (0 : Int32).toInt = 0 := by decide
                  have q_383 := i_ne c_91
                  have q_384 := i_le c_134
                  have q_385 := i_nle c_266
                  try have hq7 := hct x.toNatClampNeg (cl_lt (by omega) (by omega))
                  try generalize Int32.toInt (rw (((1800 * x) + (6 * k)) + 2).toNatClampNeg) = z0 at *
                  try generalize Int32.toInt (rw (((1800 * x) + (6 * k)) + 5).toNatClampNeg) = z1 at *
                  try generalize Int32.toInt (rw ((1800 * x) + (6 * k)).toNatClampNeg) = z2 at *
                  try generalize Int32.toInt (ct x.toNatClampNeg) = z3 at *
                  try generalize Int32.toInt r_107.2.1 = z4 at *
                  try generalize Int32.toInt r_159.2.1 = z5 at *
                  try generalize Int32.toInt r_184.2.1 = z6 at *
                  try generalize Int32.toInt r_209.2.1 = z7 at *
                  try generalize Int32.toInt wlz = z8 at *
                  try generalize Int32.toInt fi = z9 at *
                  try generalize Int32.toInt li = z10 at *
                  try generalize Int32.toInt xl = z11 at *
                  try generalize Int32.toInt (0 : Int32) = z12 at *
                  try generalize Int32.toInt k = z13 at *
                  try generalize Int32.toInt x = z14 at *
                  omega
                have v_386 : li.toInt ≤ 199 := by
                  have hq9 := hlin (by omega) (by omega) k (by omega) (by omega)
                  have q_387 := i_le c_90
                  have k_388 : (0 : Int32).toInt = 0 := by decide
                  have q_389 := i_ne c_91
                  have q_390 := i_le c_134
                  have q_391 := i_nle c_266
                  try have hq7 := hct x.toNatClampNeg (cl_lt (by omega) (by omega))
                  try generalize Int32.toInt (rw (((1800 * x) + (6 * k)) + 2).toNatClampNeg) = z0 at *
                  try generalize Int32.toInt (rw (((1800 * x) + (6 * k)) + 5).toNatClampNeg) = z1 at *
                  try generalize Int32.toInt (rw ((1800 * x) + (6 * k)).toNatClampNeg) = z2 at *
                  try generalize Int32.toInt (ct x.toNatClampNeg) = z3 at *
                  try generalize Int32.toInt r_107.2.1 = z4 at *
                  try generalize Int32.toInt r_159.2.1 = z5 at *
                  try generalize Int32.toInt r_184.2.1 = z6 at *
                  try generalize Int32.toInt r_209.2.1 = z7 at *
                  try generalize Int32.toInt wlz = z8 at *
                  try generalize Int32.toInt fi = z9 at *
                  try generalize Int32.toInt li = z10 at *
                  try generalize Int32.toInt xl = z11 at *
                  try generalize Int32.toInt (0 : Int32) = z12 at *
                  try generalize Int32.toInt k = z13 at *
                  try generalize Int32.toInt x = z14 at *
                  omega
                have v_392 : 0 ≤ r_209.2.1.toInt := by
                  have hq9 := hlin (by omega) (by omega) k (by omega) (by omega)
                  have q_393 := i_le c_90
                  have k_394 : (0 : Int32).toInt = 0 := by decide
                  have q_395 := i_ne c_91
                  have q_396 := i_le c_134
                  have q_397 := i_nle c_266
                  try have hq7 := hct x.toNatClampNeg (cl_lt (by omega) (by omega))
                  try generalize Int32.toInt (rw (((1800 * x) + (6 * k)) + 2).toNatClampNeg) = z0 at *
                  try generalize Int32.toInt (rw (((1800 * x) + (6 * k)) + 5).toNatClampNeg) = z1 at *
                  try generalize Int32.toInt (rw ((1800 * x) + (6 * k)).toNatClampNeg) = z2 at *
                  try generalize Int32.toInt (ct x.toNatClampNeg) = z3 at *
                  try generalize Int32.toInt r_107.2.1 = z4 at *
                  try generalize Int32.toInt r_159.2.1 = z5 at *
                  try generalize Int32.toInt r_184.2.1 = z6 at *
                  try generalize Int32.toInt r_209.2.1 = z7 at *
                  try generalize Int32.toInt wlz = z8 at *
                  try generalize Int32.toInt fi = z9 at *
                  try generalize Int32.toInt li = z10 at *
                  try generalize Int32.toInt xl = z11 at *
                  try generalize Int32.toInt (0 : Int32) = z12 at *
                  try generalize Int32.toInt k = z13 at *
                  try generalize Int32.toInt x = z14 at *
                  omega
                have v_398 : r_209.2.1.toInt ≤ 6000 := by
                  have hq9 := hlin (by omega) (by omega) k (by omega) (by omega)
                  have q_399 := i_le c_90
                  have k_400 : (0 : Int32).toInt = 0 := by decide
                  have q_401 := i_ne c_91
                  have q_402 := i_le c_134
                  have q_403 := i_nle c_266
                  try have hq7 := hct x.toNatClampNeg (cl_lt (by omega) (by omega))
                  try generalize Int32.toInt (rw (((1800 * x) + (6 * k)) + 2).toNatClampNeg) = z0 at *
                  try generalize Int32.toInt (rw (((1800 * x) + (6 * k)) + 5).toNatClampNeg) = z1 at *
                  try generalize Int32.toInt (rw ((1800 * x) + (6 * k)).toNatClampNeg) = z2 at *
                  try generalize Int32.toInt (ct x.toNatClampNeg) = z3 at *
                  try generalize Int32.toInt r_107.2.1 = z4 at *
                  try generalize Int32.toInt r_159.2.1 = z5 at *
                  try generalize Int32.toInt r_184.2.1 = z6 at *
                  try generalize Int32.toInt r_209.2.1 = z7 at *
                  try generalize Int32.toInt wlz = z8 at *
                  try generalize Int32.toInt fi = z9 at *
                  try generalize Int32.toInt li = z10 at *
                  try generalize Int32.toInt xl = z11 at *
                  try generalize Int32.toInt (0 : Int32) = z12 at *
                  try generalize Int32.toInt k = z13 at *
                  try generalize Int32.toInt x = z14 at *
                  omega
                have v_404 : ((k + 1)).toInt ≤ (ct x.toNatClampNeg).toInt := by
                  have hq9 := hlin (by omega) (by omega) k (by omega) (by omega)
                  have q_405 := i_le c_90
                  have k_406 : (0 : Int32).toInt = 0 := by decide
                  have q_407 := i_ne c_91
                  have q_408 := i_le c_134
                  have q_409 := i_nle c_266
                  try have hq7 := hct x.toNatClampNeg (cl_lt (by omega) (by omega))
                  have k_410 : (1 : Int32).toInt = 1 := by decide
                  have t_411 := ti_add (a := k) (b := 1) (by omega) (by omega)
                  try generalize Int32.toInt (rw (((1800 * x) + (6 * k)) + 2).toNatClampNeg) = z0 at *
                  try generalize Int32.toInt (rw (((1800 * x) + (6 * k)) + 5).toNatClampNeg) = z1 at *
                  try generalize Int32.toInt (rw ((1800 * x) + (6 * k)).toNatClampNeg) = z2 at *
                  try generalize Int32.toInt (ct x.toNatClampNeg) = z3 at *
                  try generalize Int32.toInt r_107.2.1 = z4 at *
                  try generalize Int32.toInt r_159.2.1 = z5 at *
                  try generalize Int32.toInt r_184.2.1 = z6 at *
                  try generalize Int32.toInt r_209.2.1 = z7 at *
                  try generalize Int32.toInt (k + 1) = z8 at *
                  try generalize Int32.toInt wlz = z9 at *
                  try generalize Int32.toInt fi = z10 at *
                  try generalize Int32.toInt li = z11 at *
                  try generalize Int32.toInt xl = z12 at *
                  try generalize Int32.toInt (0 : Int32) = z13 at *
                  try generalize Int32.toInt (1 : Int32) = z14 at *
                  try generalize Int32.toInt k = z15 at *
                  try generalize Int32.toInt x = z16 at *
                  omega
                have v_412 : 3 * ((ct x.toNatClampNeg).toInt - ((k + 1)).toInt) + (200 - li.toInt) + 1 < ((n : Nat) : Int) := by
                  have hq9 := hlin (by omega) (by omega) k (by omega) (by omega)
                  have q_413 := i_le c_90
                  have k_414 : (0 : Int32).toInt = 0 := by decide
                  have q_415 := i_ne c_91
                  have q_416 := i_le c_134
                  have q_417 := i_nle c_266
                  try have hq7 := hct x.toNatClampNeg (cl_lt (by omega) (by omega))
                  have k_418 : (1 : Int32).toInt = 1 := by decide
                  have t_419 := ti_add (a := k) (b := 1) (by omega) (by omega)
                  try generalize Int32.toInt (rw (((1800 * x) + (6 * k)) + 2).toNatClampNeg) = z0 at *
                  try generalize Int32.toInt (rw (((1800 * x) + (6 * k)) + 5).toNatClampNeg) = z1 at *
                  try generalize Int32.toInt (rw ((1800 * x) + (6 * k)).toNatClampNeg) = z2 at *
                  try generalize Int32.toInt (ct x.toNatClampNeg) = z3 at *
                  try generalize Int32.toInt r_107.2.1 = z4 at *
                  try generalize Int32.toInt r_159.2.1 = z5 at *
                  try generalize Int32.toInt r_184.2.1 = z6 at *
                  try generalize Int32.toInt r_209.2.1 = z7 at *
                  try generalize Int32.toInt (k + 1) = z8 at *
                  try generalize Int32.toInt wlz = z9 at *
                  try generalize Int32.toInt fi = z10 at *
                  try generalize Int32.toInt li = z11 at *
                  try generalize Int32.toInt xl = z12 at *
                  try generalize Int32.toInt (0 : Int32) = z13 at *
                  try generalize Int32.toInt (1 : Int32) = z14 at *
                  try generalize Int32.toInt k = z15 at *
                  try generalize Int32.toInt x = z16 at *
                  omega
                exact ih_48 (li) ((rw (((1800 * x) + (6 * k)) + 1).toNatClampNeg)) ((rw (((1800 * x) + (6 * k)) + 2).toNatClampNeg)) ((rw (((1800 * x) + (6 * k)) + 3).toNatClampNeg)) ((rw (((1800 * x) + (6 * k)) + 4).toNatClampNeg)) (nm) (0) ((k + 1)) (r_209.1) (r_209.2.1) (r_209.2.2) _ _ ls hR v_370 v_371 v_372 v_380 v_386 v_392 v_398 v_404 v_412 hP hD hS (lv_sub hl [6, 7, 8, 4, 3, 2, 1, 9, 5, 0] rfl)
            · rw [if_neg c_134] at hR
              refine lv_goto (tgt := 277) hx hb dX9_write_151 (by decide) ?_
              refine lv_iinc (v := (k + 1)) (lv' := [(9, .int (k + 1)), (3, .int (rw (((1800 * x) + (6 * k)) + 1).toNatClampNeg)), (8, .int 0), (0, .ref h0), (1, .int x), (2, .int li), (4, .int so), (5, .int sl), (6, .int sc), (7, .int nm), (10, .int ((1800 * x) + (6 * k)))]) hx hb dX9_write_277 hl (k := 9) rfl rfl (by decide) rfl (fun ls hl => ?_)
              refine lv_goto (tgt := 48) hx hb dX9_write_280 (by decide) ?_
              have v_424 : 0 ≤ x.toInt := by
                first | exact hx0 | assumption
              have v_425 : x.toInt ≤ 1 := by
                first | exact hx1 | assumption
              have v_426 : 0 ≤ ((k + 1)).toInt := by
                have hq9 := hlin (by omega) (by omega) k (by omega) (by omega)
                have q_427 := i_le c_90
                have k_428 : (0 : Int32).toInt = 0 := by decide
                have q_429 := i_ne c_91
                have q_430 := i_nle c_134
                try have hq7 := hct x.toNatClampNeg (cl_lt (by omega) (by omega))
                have k_431 : (1 : Int32).toInt = 1 := by decide
                have t_432 := ti_add (a := k) (b := 1) (by omega) (by omega)
                try generalize Int32.toInt (rw (((1800 * x) + (6 * k)) + 2).toNatClampNeg) = z0 at *
                try generalize Int32.toInt (rw ((1800 * x) + (6 * k)).toNatClampNeg) = z1 at *
                try generalize Int32.toInt (ct x.toNatClampNeg) = z2 at *
                try generalize Int32.toInt r_107.2.1 = z3 at *
                try generalize Int32.toInt (k + 1) = z4 at *
                try generalize Int32.toInt wlz = z5 at *
                try generalize Int32.toInt fi = z6 at *
                try generalize Int32.toInt li = z7 at *
                try generalize Int32.toInt xl = z8 at *
                try generalize Int32.toInt (0 : Int32) = z9 at *
                try generalize Int32.toInt (1 : Int32) = z10 at *
                try generalize Int32.toInt k = z11 at *
                try generalize Int32.toInt x = z12 at *
                omega
              have v_433 : 0 ≤ li.toInt := by
                have hq9 := hlin (by omega) (by omega) k (by omega) (by omega)
                have q_434 := i_le c_90
                have k_435 : (0 : Int32).toInt = 0 := by decide
                have q_436 := i_ne c_91
                have q_437 := i_nle c_134
                try have hq7 := hct x.toNatClampNeg (cl_lt (by omega) (by omega))
                try generalize Int32.toInt (rw (((1800 * x) + (6 * k)) + 2).toNatClampNeg) = z0 at *
                try generalize Int32.toInt (rw ((1800 * x) + (6 * k)).toNatClampNeg) = z1 at *
                try generalize Int32.toInt (ct x.toNatClampNeg) = z2 at *
                try generalize Int32.toInt r_107.2.1 = z3 at *
                try generalize Int32.toInt wlz = z4 at *
                try generalize Int32.toInt fi = z5 at *
                try generalize Int32.toInt li = z6 at *
                try generalize Int32.toInt xl = z7 at *
                try generalize Int32.toInt (0 : Int32) = z8 at *
                try generalize Int32.toInt k = z9 at *
                try generalize Int32.toInt x = z10 at *
                omega
              have v_438 : li.toInt ≤ 199 := by
                have hq9 := hlin (by omega) (by omega) k (by omega) (by omega)
                have q_439 := i_le c_90
                have k_440 : (0 : Int32).toInt = 0 := by decide
                have q_441 := i_ne c_91
                have q_442 := i_nle c_134
                try have hq7 := hct x.toNatClampNeg (cl_lt (by omega) (by omega))
                try generalize Int32.toInt (rw (((1800 * x) + (6 * k)) + 2).toNatClampNeg) = z0 at *
                try generalize Int32.toInt (rw ((1800 * x) + (6 * k)).toNatClampNeg) = z1 at *
                try generalize Int32.toInt (ct x.toNatClampNeg) = z2 at *
                try generalize Int32.toInt r_107.2.1 = z3 at *
                try generalize Int32.toInt wlz = z4 at *
                try generalize Int32.toInt fi = z5 at *
                try generalize Int32.toInt li = z6 at *
                try generalize Int32.toInt xl = z7 at *
                try generalize Int32.toInt (0 : Int32) = z8 at *
                try generalize Int32.toInt k = z9 at *
                try generalize Int32.toInt x = z10 at *
                omega
              have v_443 : 0 ≤ r_107.2.1.toInt := by
                have hq9 := hlin (by omega) (by omega) k (by omega) (by omega)
                have q_444 := i_le c_90
                have k_445 : (0 : Int32).toInt = 0 := by decide
                have q_446 := i_ne c_91
                have q_447 := i_nle c_134
                try have hq7 := hct x.toNatClampNeg (cl_lt (by omega) (by omega))
                try generalize Int32.toInt (rw (((1800 * x) + (6 * k)) + 2).toNatClampNeg) = z0 at *
                try generalize Int32.toInt (rw ((1800 * x) + (6 * k)).toNatClampNeg) = z1 at *
                try generalize Int32.toInt (ct x.toNatClampNeg) = z2 at *
                try generalize Int32.toInt r_107.2.1 = z3 at *
                try generalize Int32.toInt wlz = z4 at *
                try generalize Int32.toInt fi = z5 at *
                try generalize Int32.toInt li = z6 at *
                try generalize Int32.toInt xl = z7 at *
                try generalize Int32.toInt (0 : Int32) = z8 at *
                try generalize Int32.toInt k = z9 at *
                try generalize Int32.toInt x = z10 at *
                omega
              have v_448 : r_107.2.1.toInt ≤ 6000 := by
                have hq9 := hlin (by omega) (by omega) k (by omega) (by omega)
                have q_449 := i_le c_90
                have k_450 : (0 : Int32).toInt = 0 := by decide
                have q_451 := i_ne c_91
                have q_452 := i_nle c_134
                try have hq7 := hct x.toNatClampNeg (cl_lt (by omega) (by omega))
                try generalize Int32.toInt (rw (((1800 * x) + (6 * k)) + 2).toNatClampNeg) = z0 at *
                try generalize Int32.toInt (rw ((1800 * x) + (6 * k)).toNatClampNeg) = z1 at *
                try generalize Int32.toInt (ct x.toNatClampNeg) = z2 at *
                try generalize Int32.toInt r_107.2.1 = z3 at *
                try generalize Int32.toInt wlz = z4 at *
                try generalize Int32.toInt fi = z5 at *
                try generalize Int32.toInt li = z6 at *
                try generalize Int32.toInt xl = z7 at *
                try generalize Int32.toInt (0 : Int32) = z8 at *
                try generalize Int32.toInt k = z9 at *
                try generalize Int32.toInt x = z10 at *
                omega
              have v_453 : ((k + 1)).toInt ≤ (ct x.toNatClampNeg).toInt := by
                have hq9 := hlin (by omega) (by omega) k (by omega) (by omega)
                have q_454 := i_le c_90
                have k_455 : (0 : Int32).toInt = 0 := by decide
                have q_456 := i_ne c_91
                have q_457 := i_nle c_134
                try have hq7 := hct x.toNatClampNeg (cl_lt (by omega) (by omega))
                have k_458 : (1 : Int32).toInt = 1 := by decide
                have t_459 := ti_add (a := k) (b := 1) (by omega) (by omega)
                try generalize Int32.toInt (rw (((1800 * x) + (6 * k)) + 2).toNatClampNeg) = z0 at *
                try generalize Int32.toInt (rw ((1800 * x) + (6 * k)).toNatClampNeg) = z1 at *
                try generalize Int32.toInt (ct x.toNatClampNeg) = z2 at *
                try generalize Int32.toInt r_107.2.1 = z3 at *
                try generalize Int32.toInt (k + 1) = z4 at *
                try generalize Int32.toInt wlz = z5 at *
                try generalize Int32.toInt fi = z6 at *
                try generalize Int32.toInt li = z7 at *
                try generalize Int32.toInt xl = z8 at *
                try generalize Int32.toInt (0 : Int32) = z9 at *
                try generalize Int32.toInt (1 : Int32) = z10 at *
                try generalize Int32.toInt k = z11 at *
                try generalize Int32.toInt x = z12 at *
                omega
              have v_460 : 3 * ((ct x.toNatClampNeg).toInt - ((k + 1)).toInt) + (200 - li.toInt) + 1 < ((n : Nat) : Int) := by
                have hq9 := hlin (by omega) (by omega) k (by omega) (by omega)
                have q_461 := i_le c_90
                have k_462 : (0 : Int32).toInt = 0 := by decide
                have q_463 := i_ne c_91
                have q_464 := i_nle c_134
                try have hq7 := hct x.toNatClampNeg (cl_lt (by omega) (by omega))
                have k_465 : (1 : Int32).toInt = 1 := by decide
                have t_466 := ti_add (a := k) (b := 1) (by omega) (by omega)
                try generalize Int32.toInt (rw (((1800 * x) + (6 * k)) + 2).toNatClampNeg) = z0 at *
                try generalize Int32.toInt (rw ((1800 * x) + (6 * k)).toNatClampNeg) = z1 at *
                try generalize Int32.toInt (ct x.toNatClampNeg) = z2 at *
                try generalize Int32.toInt r_107.2.1 = z3 at *
                try generalize Int32.toInt (k + 1) = z4 at *
                try generalize Int32.toInt wlz = z5 at *
                try generalize Int32.toInt fi = z6 at *
                try generalize Int32.toInt li = z7 at *
                try generalize Int32.toInt xl = z8 at *
                try generalize Int32.toInt (0 : Int32) = z9 at *
                try generalize Int32.toInt (1 : Int32) = z10 at *
                try generalize Int32.toInt k = z11 at *
                try generalize Int32.toInt x = z12 at *
                omega
              exact ih_48 (li) ((rw (((1800 * x) + (6 * k)) + 1).toNatClampNeg)) (so) (sl) (sc) (nm) (0) ((k + 1)) (r_107.1) (r_107.2.1) (r_107.2.2) _ _ ls hR v_424 v_425 v_426 v_433 v_438 v_443 v_448 v_453 v_460 hP hD hS (lv_sub hl [3, 4, 5, 1, 6, 7, 8, 9, 2, 0] rfl)
          · rw [if_pos c_91] at hR
            refine lv_aload_n hx hb dX9_write_105 rfl (lv_at hl 0 rfl) ?_
            refine lv_bipush (v := 44) hx hb dX9_write_106 (by decide) ?_
            have p_467 : 0 ≤ wlz.toInt := by
              first | exact hz0 | assumption
            have p_468 : wlz.toInt ≤ 6000 := by
              first | exact hz1 | assumption
            have hPc := hP.sub (ws' := [(h0, .inr (9, [.int 0, .ref a0, .ref a1, .ref a2, .int dc, .ref a3, .int tl, .ref a4, .int xl, .int fo, .int fa, .ref a5, .int mn, .ref a6, .int ftz, .ref a7, .int wlz])), (a7, .inl (cB, 6000, .inl wz))]) [0, 4] rfl
            have hDc := hD.sub (ws' := [(h0, .inr (9, [.int 0, .ref a0, .ref a1, .ref a2, .int dc, .ref a3, .int tl, .ref a4, .int xl, .int fo, .int fa, .ref a5, .int mn, .ref a6, .int ftz, .ref a7, .int wlz])), (a7, .inl (cB, 6000, .inl wz))]) [0, 4] (by decide) rfl
            have hFc := va_free (wc := [(h0, .inr (9, [.int 0, .ref a0, .ref a1, .ref a2, .int dc, .ref a3, .int tl, .ref a4, .int xl, .int fo, .int fa, .ref a5, .int mn, .ref a6, .int ftz, .ref a7, .int wlz])), (a7, .inl (cB, 6000, .inl wz))]) hD hS hA [0, 4] rfl
            refine va_callv (va_runV (As := [.int 44]) (rest := []) ⟨hx, hb, hml, hown, hts⟩ (c_X9_add l dC dI cB cC cI cJ H.size h0 a0 a1 a2 a3 a4 a5 a6 a7 0 dc tl xl fo fa mn ftz wlz wz 44 p_467 p_468) (cwV 1 hts gX9_write_X9_add rfl rfl rfl (by decide +kernel) ⟨(Nat.le_of_ble_eq_true rfl), (Nat.le_of_ble_eq_true rfl)⟩) ⟨cP_blind, va_recv hG.1 hPc (ci := 9) (q0 := 0) rfl rfl, cP_pre hPc hG hDc⟩ rfl rfl hl.1 rfl (lv_room (Nat.le_of_ble_eq_true rfl)) dX9_write_108 ⟨Nat.le_of_ble_eq_true rfl, Nat.le_of_ble_eq_true rfl⟩) hS (fun q _ h => hFc q h) hFc (fun u t H1 locs ht hvm hw hB hz1 hk1 hS => ?_)
            obtain ⟨hP1, hD1⟩ := hB
            rw [ht] at hP1
            generalize hr_469 : fX9_add 0 dc tl xl fo fa mn ftz wlz wz 44 = r_469 at hP1 hD1 hw
            have er_469_0 := hw
            rw [bnd_eq hr_469] at hR
            obtain ⟨hP, hD⟩ := va_join (wr := [(a0, .inl (cI, 3600, .inl rw)), (a1, .inl (cI, 2, .inl ct)), (a4, .inl (cB, 6000, .inl tx))]) (w1 := [(h0, .inr (9, [.int 0, .ref a0, .ref a1, .ref a2, .int dc, .ref a3, .int tl, .ref a4, .int xl, .int fo, .int fa, .ref a5, .int mn, .ref a6, .int r_469.1, .ref a7, .int r_469.2.1])), (a7, .inl (cB, 6000, .inl r_469.2.2))]) hP hD [0, 4] [1, 2, 3] rfl rfl (by decide) (by decide) hk1 hFc hP1 hD1
            generalize H1 = H at hP hS ⊢
            have hP := hP.sub (ws' := [(h0, .inr (9, [.int 0, .ref a0, .ref a1, .ref a2, .int dc, .ref a3, .int tl, .ref a4, .int xl, .int fo, .int fa, .ref a5, .int mn, .ref a6, .int r_469.1, .ref a7, .int r_469.2.1])), (a0, .inl (cI, 3600, .inl rw)), (a1, .inl (cI, 2, .inl ct)), (a4, .inl (cB, 6000, .inl tx)), (a7, .inl (cB, 6000, .inl r_469.2.2))]) [3, 0, 1, 2, 4] rfl
            have hD := hD.sub (ws' := [(h0, .inr (9, [.int 0, .ref a0, .ref a1, .ref a2, .int dc, .ref a3, .int tl, .ref a4, .int xl, .int fo, .int fa, .ref a5, .int mn, .ref a6, .int r_469.1, .ref a7, .int r_469.2.1])), (a0, .inl (cI, 3600, .inl rw)), (a1, .inl (cI, 2, .inl ct)), (a4, .inl (cB, 6000, .inl tx)), (a7, .inl (cB, 6000, .inl r_469.2.2))]) [3, 0, 1, 2, 4] (by decide) rfl
            refine lv_iconst (v := 0) hx hb dX9_write_111 (by decide) ?_
            refine lv_istore (lv' := [(8, .int 0), (0, .ref h0), (1, .int x), (2, .int li), (3, .int co), (4, .int so), (5, .int sl), (6, .int sc), (7, .int nm), (9, .int k), (10, .int ((1800 * x) + (6 * k)))]) hx hb dX9_write_112 hl (by decide) rfl (fun ls hl => ?_)
            refine lv_aload_n hx hb dX9_write_114 rfl (lv_at hl 1 rfl) ?_
            refine lv_aload_n hx hb dX9_write_115 rfl (lv_at hl 1 rfl) ?_
            refine va_get (D := (dC, dI)) (ci := 9) (v := .ref a0) (C := RX9) (T := TX9) (N := 17) hx hb hts inc_X9_write_9 hown hG.1 hP 0 rfl rfl 1 (by decide) (hts (.fieldLink RX9 13 "MappingDeskModel" "rows" "[I") (by decide +kernel)) (fun _ h9 => h9) rfl dX9_write_116 ?_
            refine lv_iload hx hb dX9_write_119 (lv_at hl 10 rfl) ?_
            refine lv_iconst (v := 1) hx hb dX9_write_121 (by decide) ?_
            refine lv_iadd hx hb dX9_write_122 ?_
            have b_470 : vp_in (((1800 * x) + (6 * k)) + 1) 3600 := by
              have hq9 := hlin (by omega) (by omega) k (by omega) (by omega)
              have q_471 := i_le c_90
              have k_472 : (0 : Int32).toInt = 0 := by decide
              have q_473 := i_eq c_91
              try have hq7 := hct x.toNatClampNeg (cl_lt (by omega) (by omega))
              have k_474 : (1800 : Int32).toInt = 1800 := by decide
              have t_475 : ((1800 * x)).toInt = 1800 * (x).toInt := by
                have z := ti_mul (a := 1800) (b := x) (by rw [show (1800 : Int32).toInt = 1800 from by decide]; omega) (by rw [show (1800 : Int32).toInt = 1800 from by decide]; omega)
                rw [z, show (1800 : Int32).toInt = 1800 from by decide]
              have k_476 : (6 : Int32).toInt = 6 := by decide
              have t_477 : ((6 * k)).toInt = 6 * (k).toInt := by
                have z := ti_mul (a := 6) (b := k) (by rw [show (6 : Int32).toInt = 6 from by decide]; omega) (by rw [show (6 : Int32).toInt = 6 from by decide]; omega)
                rw [z, show (6 : Int32).toInt = 6 from by decide]
              have t_478 := ti_add (a := (1800 * x)) (b := (6 * k)) (by omega) (by omega)
              have k_479 : (1 : Int32).toInt = 1 := by decide
              have t_480 := ti_add (a := ((1800 * x) + (6 * k))) (b := 1) (by omega) (by omega)
              refine vin ?_ ?_
              all_goals (try generalize Int32.toInt (rw ((1800 * x) + (6 * k)).toNatClampNeg) = z0 at *; try generalize Int32.toInt (((1800 * x) + (6 * k)) + 1) = z1 at *; try generalize Int32.toInt ((1800 * x) + (6 * k)) = z2 at *; try generalize Int32.toInt (ct x.toNatClampNeg) = z3 at *; try generalize Int32.toInt (1800 * x) = z4 at *; try generalize Int32.toInt r_469.2.1 = z5 at *; try generalize Int32.toInt (6 * k) = z6 at *; try generalize Int32.toInt (1800 : Int32) = z7 at *; try generalize Int32.toInt wlz = z8 at *; try generalize Int32.toInt fi = z9 at *; try generalize Int32.toInt li = z10 at *; try generalize Int32.toInt xl = z11 at *; try generalize Int32.toInt (0 : Int32) = z12 at *; try generalize Int32.toInt (1 : Int32) = z13 at *; try generalize Int32.toInt (6 : Int32) = z14 at *; try generalize Int32.toInt k = z15 at *; try generalize Int32.toInt x = z16 at *; omega)
            refine va_iald hx hb hG.1 hP 1 2 rfl rfl b_470 dX9_write_123 ?_
            refine lv_iload_n hx hb dX9_write_124 rfl (lv_at hl 4 rfl) ?_
            refine lv_isub hx hb dX9_write_125 ?_
            have p_483 : 0 ≤ r_469.2.1.toInt := by
              have hq9 := hlin (by omega) (by omega) k (by omega) (by omega)
              have q_484 := i_le c_90
              have k_485 : (0 : Int32).toInt = 0 := by decide
              have q_486 := i_eq c_91
              try have hq7 := hct x.toNatClampNeg (cl_lt (by omega) (by omega))
              try generalize Int32.toInt (rw ((1800 * x) + (6 * k)).toNatClampNeg) = z0 at *
              try generalize Int32.toInt (ct x.toNatClampNeg) = z1 at *
              try generalize Int32.toInt r_469.2.1 = z2 at *
              try generalize Int32.toInt wlz = z3 at *
              try generalize Int32.toInt fi = z4 at *
              try generalize Int32.toInt li = z5 at *
              try generalize Int32.toInt xl = z6 at *
              try generalize Int32.toInt (0 : Int32) = z7 at *
              try generalize Int32.toInt k = z8 at *
              try generalize Int32.toInt x = z9 at *
              first | omega | exact ⟨by omega, by omega⟩
            have p_487 : r_469.2.1.toInt ≤ 6000 := by
              have hq9 := hlin (by omega) (by omega) k (by omega) (by omega)
              have q_488 := i_le c_90
              have k_489 : (0 : Int32).toInt = 0 := by decide
              have q_490 := i_eq c_91
              try have hq7 := hct x.toNatClampNeg (cl_lt (by omega) (by omega))
              try generalize Int32.toInt (rw ((1800 * x) + (6 * k)).toNatClampNeg) = z0 at *
              try generalize Int32.toInt (ct x.toNatClampNeg) = z1 at *
              try generalize Int32.toInt r_469.2.1 = z2 at *
              try generalize Int32.toInt wlz = z3 at *
              try generalize Int32.toInt fi = z4 at *
              try generalize Int32.toInt li = z5 at *
              try generalize Int32.toInt xl = z6 at *
              try generalize Int32.toInt (0 : Int32) = z7 at *
              try generalize Int32.toInt k = z8 at *
              try generalize Int32.toInt x = z9 at *
              first | omega | exact ⟨by omega, by omega⟩
            have hPc := hP.sub (ws' := [(h0, .inr (9, [.int 0, .ref a0, .ref a1, .ref a2, .int dc, .ref a3, .int tl, .ref a4, .int xl, .int fo, .int fa, .ref a5, .int mn, .ref a6, .int r_469.1, .ref a7, .int r_469.2.1])), (a7, .inl (cB, 6000, .inl r_469.2.2))]) [0, 4] rfl
            have hDc := hD.sub (ws' := [(h0, .inr (9, [.int 0, .ref a0, .ref a1, .ref a2, .int dc, .ref a3, .int tl, .ref a4, .int xl, .int fo, .int fa, .ref a5, .int mn, .ref a6, .int r_469.1, .ref a7, .int r_469.2.1])), (a7, .inl (cB, 6000, .inl r_469.2.2))]) [0, 4] (by decide) rfl
            have hFc := va_free (wc := [(h0, .inr (9, [.int 0, .ref a0, .ref a1, .ref a2, .int dc, .ref a3, .int tl, .ref a4, .int xl, .int fo, .int fa, .ref a5, .int mn, .ref a6, .int r_469.1, .ref a7, .int r_469.2.1])), (a7, .inl (cB, 6000, .inl r_469.2.2))]) hD hS hA [0, 4] rfl
            refine va_callv (va_runV (As := [.int ((rw (((1800 * x) + (6 * k)) + 1).toNatClampNeg) - co)]) (rest := []) ⟨hx, hb, hml, hown, hts⟩ (c_X9_addNumber l dC dI cB cC cI cJ H.size h0 a0 a1 a2 a3 a4 a5 a6 a7 0 dc tl xl fo fa mn r_469.1 r_469.2.1 r_469.2.2 ((rw (((1800 * x) + (6 * k)) + 1).toNatClampNeg) - co) p_483 p_487) (cwV 1 hts gX9_write_X9_addNumber rfl rfl rfl (by decide +kernel) ⟨(Nat.le_of_ble_eq_true rfl), (Nat.le_of_ble_eq_true rfl)⟩) ⟨cP_blind, va_recv hG.1 hPc (ci := 9) (q0 := 0) rfl rfl, cP_pre hPc hG hDc⟩ rfl rfl hl.1 rfl (lv_room (Nat.le_of_ble_eq_true rfl)) dX9_write_126 ⟨Nat.le_of_ble_eq_true rfl, Nat.le_of_ble_eq_true rfl⟩) hS (fun q _ h => hFc q h) hFc (fun u t H1 locs ht hvm hw hB hz1 hk1 hS => ?_)
            obtain ⟨hP1, hD1⟩ := hB
            rw [ht] at hP1
            generalize hr_491 : fX9_addNumber 0 dc tl xl fo fa mn r_469.1 r_469.2.1 r_469.2.2 ((rw (((1800 * x) + (6 * k)) + 1).toNatClampNeg) - co) = r_491 at hP1 hD1 hw
            have er_491_0 := hw
            rw [bnd_eq hr_491] at hR
            obtain ⟨hP, hD⟩ := va_join (wr := [(a0, .inl (cI, 3600, .inl rw)), (a1, .inl (cI, 2, .inl ct)), (a4, .inl (cB, 6000, .inl tx))]) (w1 := [(h0, .inr (9, [.int 0, .ref a0, .ref a1, .ref a2, .int dc, .ref a3, .int tl, .ref a4, .int xl, .int fo, .int fa, .ref a5, .int mn, .ref a6, .int r_491.1, .ref a7, .int r_491.2.1])), (a7, .inl (cB, 6000, .inl r_491.2.2))]) hP hD [0, 4] [1, 2, 3] rfl rfl (by decide) (by decide) hk1 hFc hP1 hD1
            generalize H1 = H at hP hS ⊢
            have hP := hP.sub (ws' := [(h0, .inr (9, [.int 0, .ref a0, .ref a1, .ref a2, .int dc, .ref a3, .int tl, .ref a4, .int xl, .int fo, .int fa, .ref a5, .int mn, .ref a6, .int r_491.1, .ref a7, .int r_491.2.1])), (a0, .inl (cI, 3600, .inl rw)), (a1, .inl (cI, 2, .inl ct)), (a4, .inl (cB, 6000, .inl tx)), (a7, .inl (cB, 6000, .inl r_491.2.2))]) [3, 0, 1, 2, 4] rfl
            have hD := hD.sub (ws' := [(h0, .inr (9, [.int 0, .ref a0, .ref a1, .ref a2, .int dc, .ref a3, .int tl, .ref a4, .int xl, .int fo, .int fa, .ref a5, .int mn, .ref a6, .int r_491.1, .ref a7, .int r_491.2.1])), (a0, .inl (cI, 3600, .inl rw)), (a1, .inl (cI, 2, .inl ct)), (a4, .inl (cB, 6000, .inl tx)), (a7, .inl (cB, 6000, .inl r_491.2.2))]) [3, 0, 1, 2, 4] (by decide) rfl
            refine lv_aload_n hx hb dX9_write_129 rfl (lv_at hl 1 rfl) ?_
            refine va_get (D := (dC, dI)) (ci := 9) (v := .ref a0) (C := RX9) (T := TX9) (N := 17) hx hb hts inc_X9_write_9 hown hG.1 hP 0 rfl rfl 1 (by decide) (hts (.fieldLink RX9 13 "MappingDeskModel" "rows" "[I") (by decide +kernel)) (fun _ h9 => h9) rfl dX9_write_130 ?_
            refine lv_iload hx hb dX9_write_133 (lv_at hl 10 rfl) ?_
            refine lv_iconst (v := 1) hx hb dX9_write_135 (by decide) ?_
            refine lv_iadd hx hb dX9_write_136 ?_
            have b_492 : vp_in (((1800 * x) + (6 * k)) + 1) 3600 := by
              have hq9 := hlin (by omega) (by omega) k (by omega) (by omega)
              have q_493 := i_le c_90
              have k_494 : (0 : Int32).toInt = 0 := by decide
              have q_495 := i_eq c_91
              try have hq7 := hct x.toNatClampNeg (cl_lt (by omega) (by omega))
              have k_496 : (1800 : Int32).toInt = 1800 := by decide
              have t_497 : ((1800 * x)).toInt = 1800 * (x).toInt := by
                have z := ti_mul (a := 1800) (b := x) (by rw [show (1800 : Int32).toInt = 1800 from by decide]; omega) (by rw [show (1800 : Int32).toInt = 1800 from by decide]; omega)
                rw [z, show (1800 : Int32).toInt = 1800 from by decide]
              have k_498 : (6 : Int32).toInt = 6 := by decide
              have t_499 : ((6 * k)).toInt = 6 * (k).toInt := by
                have z := ti_mul (a := 6) (b := k) (by rw [show (6 : Int32).toInt = 6 from by decide]; omega) (by rw [show (6 : Int32).toInt = 6 from by decide]; omega)
                rw [z, show (6 : Int32).toInt = 6 from by decide]
              have t_500 := ti_add (a := (1800 * x)) (b := (6 * k)) (by omega) (by omega)
              have k_501 : (1 : Int32).toInt = 1 := by decide
              have t_502 := ti_add (a := ((1800 * x) + (6 * k))) (b := 1) (by omega) (by omega)
              refine vin ?_ ?_
              all_goals (try generalize Int32.toInt (rw ((1800 * x) + (6 * k)).toNatClampNeg) = z0 at *; try generalize Int32.toInt (((1800 * x) + (6 * k)) + 1) = z1 at *; try generalize Int32.toInt ((1800 * x) + (6 * k)) = z2 at *; try generalize Int32.toInt (ct x.toNatClampNeg) = z3 at *; try generalize Int32.toInt (1800 * x) = z4 at *; try generalize Int32.toInt r_469.2.1 = z5 at *; try generalize Int32.toInt r_491.2.1 = z6 at *; try generalize Int32.toInt (6 * k) = z7 at *; try generalize Int32.toInt (1800 : Int32) = z8 at *; try generalize Int32.toInt wlz = z9 at *; try generalize Int32.toInt fi = z10 at *; try generalize Int32.toInt li = z11 at *; try generalize Int32.toInt xl = z12 at *; try generalize Int32.toInt (0 : Int32) = z13 at *; try generalize Int32.toInt (1 : Int32) = z14 at *; try generalize Int32.toInt (6 : Int32) = z15 at *; try generalize Int32.toInt k = z16 at *; try generalize Int32.toInt x = z17 at *; omega)
            refine va_iald hx hb hG.1 hP 1 2 rfl rfl b_492 dX9_write_137 ?_
            refine lv_istore_n (lv' := [(3, .int (rw (((1800 * x) + (6 * k)) + 1).toNatClampNeg)), (8, .int 0), (0, .ref h0), (1, .int x), (2, .int li), (4, .int so), (5, .int sl), (6, .int sc), (7, .int nm), (9, .int k), (10, .int ((1800 * x) + (6 * k)))]) hx hb dX9_write_138 rfl hl (by decide) rfl (fun ls hl => ?_)
            refine lv_aload_n hx hb dX9_write_139 rfl (lv_at hl 2 rfl) ?_
            refine va_get (D := (dC, dI)) (ci := 9) (v := .ref a0) (C := RX9) (T := TX9) (N := 17) hx hb hts inc_X9_write_9 hown hG.1 hP 0 rfl rfl 1 (by decide) (hts (.fieldLink RX9 13 "MappingDeskModel" "rows" "[I") (by decide +kernel)) (fun _ h9 => h9) rfl dX9_write_140 ?_
            refine lv_iload hx hb dX9_write_143 (lv_at hl 10 rfl) ?_
            refine lv_iconst (v := 2) hx hb dX9_write_145 (by decide) ?_
            refine lv_iadd hx hb dX9_write_146 ?_
            have b_505 : vp_in (((1800 * x) + (6 * k)) + 2) 3600 := by
              have hq9 := hlin (by omega) (by omega) k (by omega) (by omega)
              have q_506 := i_le c_90
              have k_507 : (0 : Int32).toInt = 0 := by decide
              have q_508 := i_eq c_91
              try have hq7 := hct x.toNatClampNeg (cl_lt (by omega) (by omega))
              have k_509 : (1800 : Int32).toInt = 1800 := by decide
              have t_510 : ((1800 * x)).toInt = 1800 * (x).toInt := by
                have z := ti_mul (a := 1800) (b := x) (by rw [show (1800 : Int32).toInt = 1800 from by decide]; omega) (by rw [show (1800 : Int32).toInt = 1800 from by decide]; omega)
                rw [z, show (1800 : Int32).toInt = 1800 from by decide]
              have k_511 : (6 : Int32).toInt = 6 := by decide
              have t_512 : ((6 * k)).toInt = 6 * (k).toInt := by
                have z := ti_mul (a := 6) (b := k) (by rw [show (6 : Int32).toInt = 6 from by decide]; omega) (by rw [show (6 : Int32).toInt = 6 from by decide]; omega)
                rw [z, show (6 : Int32).toInt = 6 from by decide]
              have t_513 := ti_add (a := (1800 * x)) (b := (6 * k)) (by omega) (by omega)
              have k_514 : (2 : Int32).toInt = 2 := by decide
              have t_515 := ti_add (a := ((1800 * x) + (6 * k))) (b := 2) (by omega) (by omega)
              refine vin ?_ ?_
              all_goals (try generalize Int32.toInt (rw ((1800 * x) + (6 * k)).toNatClampNeg) = z0 at *; try generalize Int32.toInt (((1800 * x) + (6 * k)) + 2) = z1 at *; try generalize Int32.toInt ((1800 * x) + (6 * k)) = z2 at *; try generalize Int32.toInt (ct x.toNatClampNeg) = z3 at *; try generalize Int32.toInt (1800 * x) = z4 at *; try generalize Int32.toInt r_469.2.1 = z5 at *; try generalize Int32.toInt r_491.2.1 = z6 at *; try generalize Int32.toInt (6 * k) = z7 at *; try generalize Int32.toInt (1800 : Int32) = z8 at *; try generalize Int32.toInt wlz = z9 at *; try generalize Int32.toInt fi = z10 at *; try generalize Int32.toInt li = z11 at *; try generalize Int32.toInt xl = z12 at *; try generalize Int32.toInt (0 : Int32) = z13 at *; try generalize Int32.toInt (2 : Int32) = z14 at *; try generalize Int32.toInt (6 : Int32) = z15 at *; try generalize Int32.toInt k = z16 at *; try generalize Int32.toInt x = z17 at *; omega)
            refine va_iald hx hb hG.1 hP 1 2 rfl rfl b_505 dX9_write_147 ?_
            refine lv_if_ge (tgt := 154) hx hb dX9_write_148 (by decide) (fun c_518 => ?_) (fun c_518 => ?_)
            · rw [if_pos c_518] at hR
              refine lv_aload_n hx hb dX9_write_154 rfl (lv_at hl 2 rfl) ?_
              refine lv_aload_n hx hb dX9_write_155 rfl (lv_at hl 2 rfl) ?_
              refine va_get (D := (dC, dI)) (ci := 9) (v := .ref a0) (C := RX9) (T := TX9) (N := 17) hx hb hts inc_X9_write_9 hown hG.1 hP 0 rfl rfl 1 (by decide) (hts (.fieldLink RX9 13 "MappingDeskModel" "rows" "[I") (by decide +kernel)) (fun _ h9 => h9) rfl dX9_write_156 ?_
              refine lv_iload hx hb dX9_write_159 (lv_at hl 10 rfl) ?_
              refine lv_iconst (v := 2) hx hb dX9_write_161 (by decide) ?_
              refine lv_iadd hx hb dX9_write_162 ?_
              have b_519 : vp_in (((1800 * x) + (6 * k)) + 2) 3600 := by
                have hq9 := hlin (by omega) (by omega) k (by omega) (by omega)
                have q_520 := i_le c_90
                have k_521 : (0 : Int32).toInt = 0 := by decide
                have q_522 := i_eq c_91
                have q_523 := i_le c_518
                try have hq7 := hct x.toNatClampNeg (cl_lt (by omega) (by omega))
                have k_524 : (1800 : Int32).toInt = 1800 := by decide
                have t_525 : ((1800 * x)).toInt = 1800 * (x).toInt := by
                  have z := ti_mul (a := 1800) (b := x) (by rw [show (1800 : Int32).toInt = 1800 from by decide]; omega) (by rw [show (1800 : Int32).toInt = 1800 from by decide]; omega)
                  rw [z, show (1800 : Int32).toInt = 1800 from by decide]
                have k_526 : (6 : Int32).toInt = 6 := by decide
                have t_527 : ((6 * k)).toInt = 6 * (k).toInt := by
                  have z := ti_mul (a := 6) (b := k) (by rw [show (6 : Int32).toInt = 6 from by decide]; omega) (by rw [show (6 : Int32).toInt = 6 from by decide]; omega)
                  rw [z, show (6 : Int32).toInt = 6 from by decide]
                have t_528 := ti_add (a := (1800 * x)) (b := (6 * k)) (by omega) (by omega)
                have k_529 : (2 : Int32).toInt = 2 := by decide
                have t_530 := ti_add (a := ((1800 * x) + (6 * k))) (b := 2) (by omega) (by omega)
                refine vin ?_ ?_
                all_goals (try generalize Int32.toInt (rw (((1800 * x) + (6 * k)) + 2).toNatClampNeg) = z0 at *; try generalize Int32.toInt (rw ((1800 * x) + (6 * k)).toNatClampNeg) = z1 at *; try generalize Int32.toInt (((1800 * x) + (6 * k)) + 2) = z2 at *; try generalize Int32.toInt ((1800 * x) + (6 * k)) = z3 at *; try generalize Int32.toInt (ct x.toNatClampNeg) = z4 at *; try generalize Int32.toInt (1800 * x) = z5 at *; try generalize Int32.toInt r_469.2.1 = z6 at *; try generalize Int32.toInt r_491.2.1 = z7 at *; try generalize Int32.toInt (6 * k) = z8 at *; try generalize Int32.toInt (1800 : Int32) = z9 at *; try generalize Int32.toInt wlz = z10 at *; try generalize Int32.toInt fi = z11 at *; try generalize Int32.toInt li = z12 at *; try generalize Int32.toInt xl = z13 at *; try generalize Int32.toInt (0 : Int32) = z14 at *; try generalize Int32.toInt (2 : Int32) = z15 at *; try generalize Int32.toInt (6 : Int32) = z16 at *; try generalize Int32.toInt k = z17 at *; try generalize Int32.toInt x = z18 at *; omega)
              refine va_iald hx hb hG.1 hP 1 2 rfl rfl b_519 dX9_write_163 ?_
              refine lv_iload hx hb dX9_write_164 (lv_at hl 5 rfl) ?_
              refine lv_isub hx hb dX9_write_166 ?_
              have p_533 : 0 ≤ r_491.2.1.toInt := by
                have hq9 := hlin (by omega) (by omega) k (by omega) (by omega)
                have q_534 := i_le c_90
                have k_535 : (0 : Int32).toInt = 0 := by decide
                have q_536 := i_eq c_91
                have q_537 := i_le c_518
                try have hq7 := hct x.toNatClampNeg (cl_lt (by omega) (by omega))
                try generalize Int32.toInt (rw (((1800 * x) + (6 * k)) + 2).toNatClampNeg) = z0 at *
                try generalize Int32.toInt (rw ((1800 * x) + (6 * k)).toNatClampNeg) = z1 at *
                try generalize Int32.toInt (ct x.toNatClampNeg) = z2 at *
                try generalize Int32.toInt r_469.2.1 = z3 at *
                try generalize Int32.toInt r_491.2.1 = z4 at *
                try generalize Int32.toInt wlz = z5 at *
                try generalize Int32.toInt fi = z6 at *
                try generalize Int32.toInt li = z7 at *
                try generalize Int32.toInt xl = z8 at *
                try generalize Int32.toInt (0 : Int32) = z9 at *
                try generalize Int32.toInt k = z10 at *
                try generalize Int32.toInt x = z11 at *
                first | omega | exact ⟨by omega, by omega⟩
              have p_538 : r_491.2.1.toInt ≤ 6000 := by
                have hq9 := hlin (by omega) (by omega) k (by omega) (by omega)
                have q_539 := i_le c_90
                have k_540 : (0 : Int32).toInt = 0 := by decide
                have q_541 := i_eq c_91
                have q_542 := i_le c_518
                try have hq7 := hct x.toNatClampNeg (cl_lt (by omega) (by omega))
                try generalize Int32.toInt (rw (((1800 * x) + (6 * k)) + 2).toNatClampNeg) = z0 at *
                try generalize Int32.toInt (rw ((1800 * x) + (6 * k)).toNatClampNeg) = z1 at *
                try generalize Int32.toInt (ct x.toNatClampNeg) = z2 at *
                try generalize Int32.toInt r_469.2.1 = z3 at *
                try generalize Int32.toInt r_491.2.1 = z4 at *
                try generalize Int32.toInt wlz = z5 at *
                try generalize Int32.toInt fi = z6 at *
                try generalize Int32.toInt li = z7 at *
                try generalize Int32.toInt xl = z8 at *
                try generalize Int32.toInt (0 : Int32) = z9 at *
                try generalize Int32.toInt k = z10 at *
                try generalize Int32.toInt x = z11 at *
                first | omega | exact ⟨by omega, by omega⟩
              have hPc := hP.sub (ws' := [(h0, .inr (9, [.int 0, .ref a0, .ref a1, .ref a2, .int dc, .ref a3, .int tl, .ref a4, .int xl, .int fo, .int fa, .ref a5, .int mn, .ref a6, .int r_491.1, .ref a7, .int r_491.2.1])), (a7, .inl (cB, 6000, .inl r_491.2.2))]) [0, 4] rfl
              have hDc := hD.sub (ws' := [(h0, .inr (9, [.int 0, .ref a0, .ref a1, .ref a2, .int dc, .ref a3, .int tl, .ref a4, .int xl, .int fo, .int fa, .ref a5, .int mn, .ref a6, .int r_491.1, .ref a7, .int r_491.2.1])), (a7, .inl (cB, 6000, .inl r_491.2.2))]) [0, 4] (by decide) rfl
              have hFc := va_free (wc := [(h0, .inr (9, [.int 0, .ref a0, .ref a1, .ref a2, .int dc, .ref a3, .int tl, .ref a4, .int xl, .int fo, .int fa, .ref a5, .int mn, .ref a6, .int r_491.1, .ref a7, .int r_491.2.1])), (a7, .inl (cB, 6000, .inl r_491.2.2))]) hD hS hA [0, 4] rfl
              refine va_callv (va_runV (As := [.int ((rw (((1800 * x) + (6 * k)) + 2).toNatClampNeg) - so)]) (rest := []) ⟨hx, hb, hml, hown, hts⟩ (c_X9_addNumber l dC dI cB cC cI cJ H.size h0 a0 a1 a2 a3 a4 a5 a6 a7 0 dc tl xl fo fa mn r_491.1 r_491.2.1 r_491.2.2 ((rw (((1800 * x) + (6 * k)) + 2).toNatClampNeg) - so) p_533 p_538) (cwV 1 hts gX9_write_X9_addNumber rfl rfl rfl (by decide +kernel) ⟨(Nat.le_of_ble_eq_true rfl), (Nat.le_of_ble_eq_true rfl)⟩) ⟨cP_blind, va_recv hG.1 hPc (ci := 9) (q0 := 0) rfl rfl, cP_pre hPc hG hDc⟩ rfl rfl hl.1 rfl (lv_room (Nat.le_of_ble_eq_true rfl)) dX9_write_167 ⟨Nat.le_of_ble_eq_true rfl, Nat.le_of_ble_eq_true rfl⟩) hS (fun q _ h => hFc q h) hFc (fun u t H1 locs ht hvm hw hB hz1 hk1 hS => ?_)
              obtain ⟨hP1, hD1⟩ := hB
              rw [ht] at hP1
              generalize hr_543 : fX9_addNumber 0 dc tl xl fo fa mn r_491.1 r_491.2.1 r_491.2.2 ((rw (((1800 * x) + (6 * k)) + 2).toNatClampNeg) - so) = r_543 at hP1 hD1 hw
              have er_543_0 := hw
              rw [bnd_eq hr_543] at hR
              obtain ⟨hP, hD⟩ := va_join (wr := [(a0, .inl (cI, 3600, .inl rw)), (a1, .inl (cI, 2, .inl ct)), (a4, .inl (cB, 6000, .inl tx))]) (w1 := [(h0, .inr (9, [.int 0, .ref a0, .ref a1, .ref a2, .int dc, .ref a3, .int tl, .ref a4, .int xl, .int fo, .int fa, .ref a5, .int mn, .ref a6, .int r_543.1, .ref a7, .int r_543.2.1])), (a7, .inl (cB, 6000, .inl r_543.2.2))]) hP hD [0, 4] [1, 2, 3] rfl rfl (by decide) (by decide) hk1 hFc hP1 hD1
              generalize H1 = H at hP hS ⊢
              have hP := hP.sub (ws' := [(h0, .inr (9, [.int 0, .ref a0, .ref a1, .ref a2, .int dc, .ref a3, .int tl, .ref a4, .int xl, .int fo, .int fa, .ref a5, .int mn, .ref a6, .int r_543.1, .ref a7, .int r_543.2.1])), (a0, .inl (cI, 3600, .inl rw)), (a1, .inl (cI, 2, .inl ct)), (a4, .inl (cB, 6000, .inl tx)), (a7, .inl (cB, 6000, .inl r_543.2.2))]) [3, 0, 1, 2, 4] rfl
              have hD := hD.sub (ws' := [(h0, .inr (9, [.int 0, .ref a0, .ref a1, .ref a2, .int dc, .ref a3, .int tl, .ref a4, .int xl, .int fo, .int fa, .ref a5, .int mn, .ref a6, .int r_543.1, .ref a7, .int r_543.2.1])), (a0, .inl (cI, 3600, .inl rw)), (a1, .inl (cI, 2, .inl ct)), (a4, .inl (cB, 6000, .inl tx)), (a7, .inl (cB, 6000, .inl r_543.2.2))]) [3, 0, 1, 2, 4] (by decide) rfl
              refine lv_aload_n hx hb dX9_write_170 rfl (lv_at hl 2 rfl) ?_
              refine lv_aload_n hx hb dX9_write_171 rfl (lv_at hl 2 rfl) ?_
              refine va_get (D := (dC, dI)) (ci := 9) (v := .ref a0) (C := RX9) (T := TX9) (N := 17) hx hb hts inc_X9_write_9 hown hG.1 hP 0 rfl rfl 1 (by decide) (hts (.fieldLink RX9 13 "MappingDeskModel" "rows" "[I") (by decide +kernel)) (fun _ h9 => h9) rfl dX9_write_172 ?_
              refine lv_iload hx hb dX9_write_175 (lv_at hl 10 rfl) ?_
              refine lv_iconst (v := 3) hx hb dX9_write_177 (by decide) ?_
              refine lv_iadd hx hb dX9_write_178 ?_
              have b_544 : vp_in (((1800 * x) + (6 * k)) + 3) 3600 := by
                have hq9 := hlin (by omega) (by omega) k (by omega) (by omega)
                have q_545 := i_le c_90
                have k_546 : (0 : Int32).toInt = 0 := by decide
                have q_547 := i_eq c_91
                have q_548 := i_le c_518
                try have hq7 := hct x.toNatClampNeg (cl_lt (by omega) (by omega))
                have k_549 : (1800 : Int32).toInt = 1800 := by decide
                have t_550 : ((1800 * x)).toInt = 1800 * (x).toInt := by
                  have z := ti_mul (a := 1800) (b := x) (by rw [show (1800 : Int32).toInt = 1800 from by decide]; omega) (by rw [show (1800 : Int32).toInt = 1800 from by decide]; omega)
                  rw [z, show (1800 : Int32).toInt = 1800 from by decide]
                have k_551 : (6 : Int32).toInt = 6 := by decide
                have t_552 : ((6 * k)).toInt = 6 * (k).toInt := by
                  have z := ti_mul (a := 6) (b := k) (by rw [show (6 : Int32).toInt = 6 from by decide]; omega) (by rw [show (6 : Int32).toInt = 6 from by decide]; omega)
                  rw [z, show (6 : Int32).toInt = 6 from by decide]
                have t_553 := ti_add (a := (1800 * x)) (b := (6 * k)) (by omega) (by omega)
                have k_554 : (3 : Int32).toInt = 3 := by decide
                have t_555 := ti_add (a := ((1800 * x) + (6 * k))) (b := 3) (by omega) (by omega)
                refine vin ?_ ?_
                all_goals (try generalize Int32.toInt (rw (((1800 * x) + (6 * k)) + 2).toNatClampNeg) = z0 at *; try generalize Int32.toInt (rw ((1800 * x) + (6 * k)).toNatClampNeg) = z1 at *; try generalize Int32.toInt (((1800 * x) + (6 * k)) + 3) = z2 at *; try generalize Int32.toInt ((1800 * x) + (6 * k)) = z3 at *; try generalize Int32.toInt (ct x.toNatClampNeg) = z4 at *; try generalize Int32.toInt (1800 * x) = z5 at *; try generalize Int32.toInt r_469.2.1 = z6 at *; try generalize Int32.toInt r_491.2.1 = z7 at *; try generalize Int32.toInt r_543.2.1 = z8 at *; try generalize Int32.toInt (6 * k) = z9 at *; try generalize Int32.toInt (1800 : Int32) = z10 at *; try generalize Int32.toInt wlz = z11 at *; try generalize Int32.toInt fi = z12 at *; try generalize Int32.toInt li = z13 at *; try generalize Int32.toInt xl = z14 at *; try generalize Int32.toInt (0 : Int32) = z15 at *; try generalize Int32.toInt (3 : Int32) = z16 at *; try generalize Int32.toInt (6 : Int32) = z17 at *; try generalize Int32.toInt k = z18 at *; try generalize Int32.toInt x = z19 at *; omega)
              refine va_iald hx hb hG.1 hP 1 2 rfl rfl b_544 dX9_write_179 ?_
              refine lv_iload hx hb dX9_write_180 (lv_at hl 6 rfl) ?_
              refine lv_isub hx hb dX9_write_182 ?_
              have p_558 : 0 ≤ r_543.2.1.toInt := by
                have hq9 := hlin (by omega) (by omega) k (by omega) (by omega)
                have q_559 := i_le c_90
                have k_560 : (0 : Int32).toInt = 0 := by decide
                have q_561 := i_eq c_91
                have q_562 := i_le c_518
                try have hq7 := hct x.toNatClampNeg (cl_lt (by omega) (by omega))
                try generalize Int32.toInt (rw (((1800 * x) + (6 * k)) + 2).toNatClampNeg) = z0 at *
                try generalize Int32.toInt (rw ((1800 * x) + (6 * k)).toNatClampNeg) = z1 at *
                try generalize Int32.toInt (ct x.toNatClampNeg) = z2 at *
                try generalize Int32.toInt r_469.2.1 = z3 at *
                try generalize Int32.toInt r_491.2.1 = z4 at *
                try generalize Int32.toInt r_543.2.1 = z5 at *
                try generalize Int32.toInt wlz = z6 at *
                try generalize Int32.toInt fi = z7 at *
                try generalize Int32.toInt li = z8 at *
                try generalize Int32.toInt xl = z9 at *
                try generalize Int32.toInt (0 : Int32) = z10 at *
                try generalize Int32.toInt k = z11 at *
                try generalize Int32.toInt x = z12 at *
                first | omega | exact ⟨by omega, by omega⟩
              have p_563 : r_543.2.1.toInt ≤ 6000 := by
                have hq9 := hlin (by omega) (by omega) k (by omega) (by omega)
                have q_564 := i_le c_90
                have k_565 : (0 : Int32).toInt = 0 := by decide
                have q_566 := i_eq c_91
                have q_567 := i_le c_518
                try have hq7 := hct x.toNatClampNeg (cl_lt (by omega) (by omega))
                try generalize Int32.toInt (rw (((1800 * x) + (6 * k)) + 2).toNatClampNeg) = z0 at *
                try generalize Int32.toInt (rw ((1800 * x) + (6 * k)).toNatClampNeg) = z1 at *
                try generalize Int32.toInt (ct x.toNatClampNeg) = z2 at *
                try generalize Int32.toInt r_469.2.1 = z3 at *
                try generalize Int32.toInt r_491.2.1 = z4 at *
                try generalize Int32.toInt r_543.2.1 = z5 at *
                try generalize Int32.toInt wlz = z6 at *
                try generalize Int32.toInt fi = z7 at *
                try generalize Int32.toInt li = z8 at *
                try generalize Int32.toInt xl = z9 at *
                try generalize Int32.toInt (0 : Int32) = z10 at *
                try generalize Int32.toInt k = z11 at *
                try generalize Int32.toInt x = z12 at *
                first | omega | exact ⟨by omega, by omega⟩
              have hPc := hP.sub (ws' := [(h0, .inr (9, [.int 0, .ref a0, .ref a1, .ref a2, .int dc, .ref a3, .int tl, .ref a4, .int xl, .int fo, .int fa, .ref a5, .int mn, .ref a6, .int r_543.1, .ref a7, .int r_543.2.1])), (a7, .inl (cB, 6000, .inl r_543.2.2))]) [0, 4] rfl
              have hDc := hD.sub (ws' := [(h0, .inr (9, [.int 0, .ref a0, .ref a1, .ref a2, .int dc, .ref a3, .int tl, .ref a4, .int xl, .int fo, .int fa, .ref a5, .int mn, .ref a6, .int r_543.1, .ref a7, .int r_543.2.1])), (a7, .inl (cB, 6000, .inl r_543.2.2))]) [0, 4] (by decide) rfl
              have hFc := va_free (wc := [(h0, .inr (9, [.int 0, .ref a0, .ref a1, .ref a2, .int dc, .ref a3, .int tl, .ref a4, .int xl, .int fo, .int fa, .ref a5, .int mn, .ref a6, .int r_543.1, .ref a7, .int r_543.2.1])), (a7, .inl (cB, 6000, .inl r_543.2.2))]) hD hS hA [0, 4] rfl
              refine va_callv (va_runV (As := [.int ((rw (((1800 * x) + (6 * k)) + 3).toNatClampNeg) - sl)]) (rest := []) ⟨hx, hb, hml, hown, hts⟩ (c_X9_addNumber l dC dI cB cC cI cJ H.size h0 a0 a1 a2 a3 a4 a5 a6 a7 0 dc tl xl fo fa mn r_543.1 r_543.2.1 r_543.2.2 ((rw (((1800 * x) + (6 * k)) + 3).toNatClampNeg) - sl) p_558 p_563) (cwV 1 hts gX9_write_X9_addNumber rfl rfl rfl (by decide +kernel) ⟨(Nat.le_of_ble_eq_true rfl), (Nat.le_of_ble_eq_true rfl)⟩) ⟨cP_blind, va_recv hG.1 hPc (ci := 9) (q0 := 0) rfl rfl, cP_pre hPc hG hDc⟩ rfl rfl hl.1 rfl (lv_room (Nat.le_of_ble_eq_true rfl)) dX9_write_183 ⟨Nat.le_of_ble_eq_true rfl, Nat.le_of_ble_eq_true rfl⟩) hS (fun q _ h => hFc q h) hFc (fun u t H1 locs ht hvm hw hB hz1 hk1 hS => ?_)
              obtain ⟨hP1, hD1⟩ := hB
              rw [ht] at hP1
              generalize hr_568 : fX9_addNumber 0 dc tl xl fo fa mn r_543.1 r_543.2.1 r_543.2.2 ((rw (((1800 * x) + (6 * k)) + 3).toNatClampNeg) - sl) = r_568 at hP1 hD1 hw
              have er_568_0 := hw
              rw [bnd_eq hr_568] at hR
              obtain ⟨hP, hD⟩ := va_join (wr := [(a0, .inl (cI, 3600, .inl rw)), (a1, .inl (cI, 2, .inl ct)), (a4, .inl (cB, 6000, .inl tx))]) (w1 := [(h0, .inr (9, [.int 0, .ref a0, .ref a1, .ref a2, .int dc, .ref a3, .int tl, .ref a4, .int xl, .int fo, .int fa, .ref a5, .int mn, .ref a6, .int r_568.1, .ref a7, .int r_568.2.1])), (a7, .inl (cB, 6000, .inl r_568.2.2))]) hP hD [0, 4] [1, 2, 3] rfl rfl (by decide) (by decide) hk1 hFc hP1 hD1
              generalize H1 = H at hP hS ⊢
              have hP := hP.sub (ws' := [(h0, .inr (9, [.int 0, .ref a0, .ref a1, .ref a2, .int dc, .ref a3, .int tl, .ref a4, .int xl, .int fo, .int fa, .ref a5, .int mn, .ref a6, .int r_568.1, .ref a7, .int r_568.2.1])), (a0, .inl (cI, 3600, .inl rw)), (a1, .inl (cI, 2, .inl ct)), (a4, .inl (cB, 6000, .inl tx)), (a7, .inl (cB, 6000, .inl r_568.2.2))]) [3, 0, 1, 2, 4] rfl
              have hD := hD.sub (ws' := [(h0, .inr (9, [.int 0, .ref a0, .ref a1, .ref a2, .int dc, .ref a3, .int tl, .ref a4, .int xl, .int fo, .int fa, .ref a5, .int mn, .ref a6, .int r_568.1, .ref a7, .int r_568.2.1])), (a0, .inl (cI, 3600, .inl rw)), (a1, .inl (cI, 2, .inl ct)), (a4, .inl (cB, 6000, .inl tx)), (a7, .inl (cB, 6000, .inl r_568.2.2))]) [3, 0, 1, 2, 4] (by decide) rfl
              refine lv_aload_n hx hb dX9_write_186 rfl (lv_at hl 2 rfl) ?_
              refine lv_aload_n hx hb dX9_write_187 rfl (lv_at hl 2 rfl) ?_
              refine va_get (D := (dC, dI)) (ci := 9) (v := .ref a0) (C := RX9) (T := TX9) (N := 17) hx hb hts inc_X9_write_9 hown hG.1 hP 0 rfl rfl 1 (by decide) (hts (.fieldLink RX9 13 "MappingDeskModel" "rows" "[I") (by decide +kernel)) (fun _ h9 => h9) rfl dX9_write_188 ?_
              refine lv_iload hx hb dX9_write_191 (lv_at hl 10 rfl) ?_
              refine lv_iconst (v := 4) hx hb dX9_write_193 (by decide) ?_
              refine lv_iadd hx hb dX9_write_194 ?_
              have b_569 : vp_in (((1800 * x) + (6 * k)) + 4) 3600 := by
                have hq9 := hlin (by omega) (by omega) k (by omega) (by omega)
                have q_570 := i_le c_90
                have k_571 : (0 : Int32).toInt = 0 := by decide
                have q_572 := i_eq c_91
                have q_573 := i_le c_518
                try have hq7 := hct x.toNatClampNeg (cl_lt (by omega) (by omega))
                have k_574 : (1800 : Int32).toInt = 1800 := by decide
                have t_575 : ((1800 * x)).toInt = 1800 * (x).toInt := by
                  have z := ti_mul (a := 1800) (b := x) (by rw [show (1800 : Int32).toInt = 1800 from by decide]; omega) (by rw [show (1800 : Int32).toInt = 1800 from by decide]; omega)
                  rw [z, show (1800 : Int32).toInt = 1800 from by decide]
                have k_576 : (6 : Int32).toInt = 6 := by decide
                have t_577 : ((6 * k)).toInt = 6 * (k).toInt := by
                  have z := ti_mul (a := 6) (b := k) (by rw [show (6 : Int32).toInt = 6 from by decide]; omega) (by rw [show (6 : Int32).toInt = 6 from by decide]; omega)
                  rw [z, show (6 : Int32).toInt = 6 from by decide]
                have t_578 := ti_add (a := (1800 * x)) (b := (6 * k)) (by omega) (by omega)
                have k_579 : (4 : Int32).toInt = 4 := by decide
                have t_580 := ti_add (a := ((1800 * x) + (6 * k))) (b := 4) (by omega) (by omega)
                refine vin ?_ ?_
                all_goals (try generalize Int32.toInt (rw (((1800 * x) + (6 * k)) + 2).toNatClampNeg) = z0 at *; try generalize Int32.toInt (rw ((1800 * x) + (6 * k)).toNatClampNeg) = z1 at *; try generalize Int32.toInt (((1800 * x) + (6 * k)) + 4) = z2 at *; try generalize Int32.toInt ((1800 * x) + (6 * k)) = z3 at *; try generalize Int32.toInt (ct x.toNatClampNeg) = z4 at *; try generalize Int32.toInt (1800 * x) = z5 at *; try generalize Int32.toInt r_469.2.1 = z6 at *; try generalize Int32.toInt r_491.2.1 = z7 at *; try generalize Int32.toInt r_543.2.1 = z8 at *; try generalize Int32.toInt r_568.2.1 = z9 at *; try generalize Int32.toInt (6 * k) = z10 at *; try generalize Int32.toInt (1800 : Int32) = z11 at *; try generalize Int32.toInt wlz = z12 at *; try generalize Int32.toInt fi = z13 at *; try generalize Int32.toInt li = z14 at *; try generalize Int32.toInt xl = z15 at *; try generalize Int32.toInt (0 : Int32) = z16 at *; try generalize Int32.toInt (4 : Int32) = z17 at *; try generalize Int32.toInt (6 : Int32) = z18 at *; try generalize Int32.toInt k = z19 at *; try generalize Int32.toInt x = z20 at *; omega)
              refine va_iald hx hb hG.1 hP 1 2 rfl rfl b_569 dX9_write_195 ?_
              refine lv_iload hx hb dX9_write_196 (lv_at hl 7 rfl) ?_
              refine lv_isub hx hb dX9_write_198 ?_
              have p_583 : 0 ≤ r_568.2.1.toInt := by
                have hq9 := hlin (by omega) (by omega) k (by omega) (by omega)
                have q_584 := i_le c_90
                have k_585 : (0 : Int32).toInt = 0 := by decide
                have q_586 := i_eq c_91
                have q_587 := i_le c_518
                try have hq7 := hct x.toNatClampNeg (cl_lt (by omega) (by omega))
                try generalize Int32.toInt (rw (((1800 * x) + (6 * k)) + 2).toNatClampNeg) = z0 at *
                try generalize Int32.toInt (rw ((1800 * x) + (6 * k)).toNatClampNeg) = z1 at *
                try generalize Int32.toInt (ct x.toNatClampNeg) = z2 at *
                try generalize Int32.toInt r_469.2.1 = z3 at *
                try generalize Int32.toInt r_491.2.1 = z4 at *
                try generalize Int32.toInt r_543.2.1 = z5 at *
                try generalize Int32.toInt r_568.2.1 = z6 at *
                try generalize Int32.toInt wlz = z7 at *
                try generalize Int32.toInt fi = z8 at *
                try generalize Int32.toInt li = z9 at *
                try generalize Int32.toInt xl = z10 at *
                try generalize Int32.toInt (0 : Int32) = z11 at *
                try generalize Int32.toInt k = z12 at *
                try generalize Int32.toInt x = z13 at *
                first | omega | exact ⟨by omega, by omega⟩
              have p_588 : r_568.2.1.toInt ≤ 6000 := by
                have hq9 := hlin (by omega) (by omega) k (by omega) (by omega)
                have q_589 := i_le c_90
                have k_590 : (0 : Int32).toInt = 0 := by decide
                have q_591 := i_eq c_91
                have q_592 := i_le c_518
                try have hq7 := hct x.toNatClampNeg (cl_lt (by omega) (by omega))
                try generalize Int32.toInt (rw (((1800 * x) + (6 * k)) + 2).toNatClampNeg) = z0 at *
                try generalize Int32.toInt (rw ((1800 * x) + (6 * k)).toNatClampNeg) = z1 at *
                try generalize Int32.toInt (ct x.toNatClampNeg) = z2 at *
                try generalize Int32.toInt r_469.2.1 = z3 at *
                try generalize Int32.toInt r_491.2.1 = z4 at *
                try generalize Int32.toInt r_543.2.1 = z5 at *
                try generalize Int32.toInt r_568.2.1 = z6 at *
                try generalize Int32.toInt wlz = z7 at *
                try generalize Int32.toInt fi = z8 at *
                try generalize Int32.toInt li = z9 at *
                try generalize Int32.toInt xl = z10 at *
                try generalize Int32.toInt (0 : Int32) = z11 at *
                try generalize Int32.toInt k = z12 at *
                try generalize Int32.toInt x = z13 at *
                first | omega | exact ⟨by omega, by omega⟩
              have hPc := hP.sub (ws' := [(h0, .inr (9, [.int 0, .ref a0, .ref a1, .ref a2, .int dc, .ref a3, .int tl, .ref a4, .int xl, .int fo, .int fa, .ref a5, .int mn, .ref a6, .int r_568.1, .ref a7, .int r_568.2.1])), (a7, .inl (cB, 6000, .inl r_568.2.2))]) [0, 4] rfl
              have hDc := hD.sub (ws' := [(h0, .inr (9, [.int 0, .ref a0, .ref a1, .ref a2, .int dc, .ref a3, .int tl, .ref a4, .int xl, .int fo, .int fa, .ref a5, .int mn, .ref a6, .int r_568.1, .ref a7, .int r_568.2.1])), (a7, .inl (cB, 6000, .inl r_568.2.2))]) [0, 4] (by decide) rfl
              have hFc := va_free (wc := [(h0, .inr (9, [.int 0, .ref a0, .ref a1, .ref a2, .int dc, .ref a3, .int tl, .ref a4, .int xl, .int fo, .int fa, .ref a5, .int mn, .ref a6, .int r_568.1, .ref a7, .int r_568.2.1])), (a7, .inl (cB, 6000, .inl r_568.2.2))]) hD hS hA [0, 4] rfl
              refine va_callv (va_runV (As := [.int ((rw (((1800 * x) + (6 * k)) + 4).toNatClampNeg) - sc)]) (rest := []) ⟨hx, hb, hml, hown, hts⟩ (c_X9_addNumber l dC dI cB cC cI cJ H.size h0 a0 a1 a2 a3 a4 a5 a6 a7 0 dc tl xl fo fa mn r_568.1 r_568.2.1 r_568.2.2 ((rw (((1800 * x) + (6 * k)) + 4).toNatClampNeg) - sc) p_583 p_588) (cwV 1 hts gX9_write_X9_addNumber rfl rfl rfl (by decide +kernel) ⟨(Nat.le_of_ble_eq_true rfl), (Nat.le_of_ble_eq_true rfl)⟩) ⟨cP_blind, va_recv hG.1 hPc (ci := 9) (q0 := 0) rfl rfl, cP_pre hPc hG hDc⟩ rfl rfl hl.1 rfl (lv_room (Nat.le_of_ble_eq_true rfl)) dX9_write_199 ⟨Nat.le_of_ble_eq_true rfl, Nat.le_of_ble_eq_true rfl⟩) hS (fun q _ h => hFc q h) hFc (fun u t H1 locs ht hvm hw hB hz1 hk1 hS => ?_)
              obtain ⟨hP1, hD1⟩ := hB
              rw [ht] at hP1
              generalize hr_593 : fX9_addNumber 0 dc tl xl fo fa mn r_568.1 r_568.2.1 r_568.2.2 ((rw (((1800 * x) + (6 * k)) + 4).toNatClampNeg) - sc) = r_593 at hP1 hD1 hw
              have er_593_0 := hw
              rw [bnd_eq hr_593] at hR
              obtain ⟨hP, hD⟩ := va_join (wr := [(a0, .inl (cI, 3600, .inl rw)), (a1, .inl (cI, 2, .inl ct)), (a4, .inl (cB, 6000, .inl tx))]) (w1 := [(h0, .inr (9, [.int 0, .ref a0, .ref a1, .ref a2, .int dc, .ref a3, .int tl, .ref a4, .int xl, .int fo, .int fa, .ref a5, .int mn, .ref a6, .int r_593.1, .ref a7, .int r_593.2.1])), (a7, .inl (cB, 6000, .inl r_593.2.2))]) hP hD [0, 4] [1, 2, 3] rfl rfl (by decide) (by decide) hk1 hFc hP1 hD1
              generalize H1 = H at hP hS ⊢
              have hP := hP.sub (ws' := [(h0, .inr (9, [.int 0, .ref a0, .ref a1, .ref a2, .int dc, .ref a3, .int tl, .ref a4, .int xl, .int fo, .int fa, .ref a5, .int mn, .ref a6, .int r_593.1, .ref a7, .int r_593.2.1])), (a0, .inl (cI, 3600, .inl rw)), (a1, .inl (cI, 2, .inl ct)), (a4, .inl (cB, 6000, .inl tx)), (a7, .inl (cB, 6000, .inl r_593.2.2))]) [3, 0, 1, 2, 4] rfl
              have hD := hD.sub (ws' := [(h0, .inr (9, [.int 0, .ref a0, .ref a1, .ref a2, .int dc, .ref a3, .int tl, .ref a4, .int xl, .int fo, .int fa, .ref a5, .int mn, .ref a6, .int r_593.1, .ref a7, .int r_593.2.1])), (a0, .inl (cI, 3600, .inl rw)), (a1, .inl (cI, 2, .inl ct)), (a4, .inl (cB, 6000, .inl tx)), (a7, .inl (cB, 6000, .inl r_593.2.2))]) [3, 0, 1, 2, 4] (by decide) rfl
              refine lv_aload_n hx hb dX9_write_202 rfl (lv_at hl 2 rfl) ?_
              refine va_get (D := (dC, dI)) (ci := 9) (v := .ref a0) (C := RX9) (T := TX9) (N := 17) hx hb hts inc_X9_write_9 hown hG.1 hP 0 rfl rfl 1 (by decide) (hts (.fieldLink RX9 13 "MappingDeskModel" "rows" "[I") (by decide +kernel)) (fun _ h9 => h9) rfl dX9_write_203 ?_
              refine lv_iload hx hb dX9_write_206 (lv_at hl 10 rfl) ?_
              refine lv_iconst (v := 2) hx hb dX9_write_208 (by decide) ?_
              refine lv_iadd hx hb dX9_write_209 ?_
              have b_594 : vp_in (((1800 * x) + (6 * k)) + 2) 3600 := by
                have hq9 := hlin (by omega) (by omega) k (by omega) (by omega)
                have q_595 := i_le c_90
                have k_596 : (0 : Int32).toInt = 0 := by decide
                have q_597 := i_eq c_91
                have q_598 := i_le c_518
                try have hq7 := hct x.toNatClampNeg (cl_lt (by omega) (by omega))
                have k_599 : (1800 : Int32).toInt = 1800 := by decide
                have t_600 : ((1800 * x)).toInt = 1800 * (x).toInt := by
                  have z := ti_mul (a := 1800) (b := x) (by rw [show (1800 : Int32).toInt = 1800 from by decide]; omega) (by rw [show (1800 : Int32).toInt = 1800 from by decide]; omega)
                  rw [z, show (1800 : Int32).toInt = 1800 from by decide]
                have k_601 : (6 : Int32).toInt = 6 := by decide
                have t_602 : ((6 * k)).toInt = 6 * (k).toInt := by
                  have z := ti_mul (a := 6) (b := k) (by rw [show (6 : Int32).toInt = 6 from by decide]; omega) (by rw [show (6 : Int32).toInt = 6 from by decide]; omega)
                  rw [z, show (6 : Int32).toInt = 6 from by decide]
                have t_603 := ti_add (a := (1800 * x)) (b := (6 * k)) (by omega) (by omega)
                have k_604 : (2 : Int32).toInt = 2 := by decide
                have t_605 := ti_add (a := ((1800 * x) + (6 * k))) (b := 2) (by omega) (by omega)
                refine vin ?_ ?_
                all_goals (try generalize Int32.toInt (rw (((1800 * x) + (6 * k)) + 2).toNatClampNeg) = z0 at *; try generalize Int32.toInt (rw ((1800 * x) + (6 * k)).toNatClampNeg) = z1 at *; try generalize Int32.toInt (((1800 * x) + (6 * k)) + 2) = z2 at *; try generalize Int32.toInt ((1800 * x) + (6 * k)) = z3 at *; try generalize Int32.toInt (ct x.toNatClampNeg) = z4 at *; try generalize Int32.toInt (1800 * x) = z5 at *; try generalize Int32.toInt r_469.2.1 = z6 at *; try generalize Int32.toInt r_491.2.1 = z7 at *; try generalize Int32.toInt r_543.2.1 = z8 at *; try generalize Int32.toInt r_568.2.1 = z9 at *; try generalize Int32.toInt r_593.2.1 = z10 at *; try generalize Int32.toInt (6 * k) = z11 at *; try generalize Int32.toInt (1800 : Int32) = z12 at *; try generalize Int32.toInt wlz = z13 at *; try generalize Int32.toInt fi = z14 at *; try generalize Int32.toInt li = z15 at *; try generalize Int32.toInt xl = z16 at *; try generalize Int32.toInt (0 : Int32) = z17 at *; try generalize Int32.toInt (2 : Int32) = z18 at *; try generalize Int32.toInt (6 : Int32) = z19 at *; try generalize Int32.toInt k = z20 at *; try generalize Int32.toInt x = z21 at *; omega)
              refine va_iald hx hb hG.1 hP 1 2 rfl rfl b_594 dX9_write_210 ?_
              refine lv_istore (lv' := [(4, .int (rw (((1800 * x) + (6 * k)) + 2).toNatClampNeg)), (3, .int (rw (((1800 * x) + (6 * k)) + 1).toNatClampNeg)), (8, .int 0), (0, .ref h0), (1, .int x), (2, .int li), (5, .int sl), (6, .int sc), (7, .int nm), (9, .int k), (10, .int ((1800 * x) + (6 * k)))]) hx hb dX9_write_211 hl (by decide) rfl (fun ls hl => ?_)
              refine lv_aload_n hx hb dX9_write_213 rfl (lv_at hl 3 rfl) ?_
              refine va_get (D := (dC, dI)) (ci := 9) (v := .ref a0) (C := RX9) (T := TX9) (N := 17) hx hb hts inc_X9_write_9 hown hG.1 hP 0 rfl rfl 1 (by decide) (hts (.fieldLink RX9 13 "MappingDeskModel" "rows" "[I") (by decide +kernel)) (fun _ h9 => h9) rfl dX9_write_214 ?_
              refine lv_iload hx hb dX9_write_217 (lv_at hl 10 rfl) ?_
              refine lv_iconst (v := 3) hx hb dX9_write_219 (by decide) ?_
              refine lv_iadd hx hb dX9_write_220 ?_
              have b_608 : vp_in (((1800 * x) + (6 * k)) + 3) 3600 := by
                have hq9 := hlin (by omega) (by omega) k (by omega) (by omega)
                have q_609 := i_le c_90
                have k_610 : (0 : Int32).toInt = 0 := by decide
                have q_611 := i_eq c_91
                have q_612 := i_le c_518
                try have hq7 := hct x.toNatClampNeg (cl_lt (by omega) (by omega))
                have k_613 : (1800 : Int32).toInt = 1800 := by decide
                have t_614 : ((1800 * x)).toInt = 1800 * (x).toInt := by
                  have z := ti_mul (a := 1800) (b := x) (by rw [show (1800 : Int32).toInt = 1800 from by decide]; omega) (by rw [show (1800 : Int32).toInt = 1800 from by decide]; omega)
                  rw [z, show (1800 : Int32).toInt = 1800 from by decide]
                have k_615 : (6 : Int32).toInt = 6 := by decide
                have t_616 : ((6 * k)).toInt = 6 * (k).toInt := by
                  have z := ti_mul (a := 6) (b := k) (by rw [show (6 : Int32).toInt = 6 from by decide]; omega) (by rw [show (6 : Int32).toInt = 6 from by decide]; omega)
                  rw [z, show (6 : Int32).toInt = 6 from by decide]
                have t_617 := ti_add (a := (1800 * x)) (b := (6 * k)) (by omega) (by omega)
                have k_618 : (3 : Int32).toInt = 3 := by decide
                have t_619 := ti_add (a := ((1800 * x) + (6 * k))) (b := 3) (by omega) (by omega)
                refine vin ?_ ?_
                all_goals (try generalize Int32.toInt (rw (((1800 * x) + (6 * k)) + 2).toNatClampNeg) = z0 at *; try generalize Int32.toInt (rw ((1800 * x) + (6 * k)).toNatClampNeg) = z1 at *; try generalize Int32.toInt (((1800 * x) + (6 * k)) + 3) = z2 at *; try generalize Int32.toInt ((1800 * x) + (6 * k)) = z3 at *; try generalize Int32.toInt (ct x.toNatClampNeg) = z4 at *; try generalize Int32.toInt (1800 * x) = z5 at *; try generalize Int32.toInt r_469.2.1 = z6 at *; try generalize Int32.toInt r_491.2.1 = z7 at *; try generalize Int32.toInt r_543.2.1 = z8 at *; try generalize Int32.toInt r_568.2.1 = z9 at *; try generalize Int32.toInt r_593.2.1 = z10 at *; try generalize Int32.toInt (6 * k) = z11 at *; try generalize Int32.toInt (1800 : Int32) = z12 at *; try generalize Int32.toInt wlz = z13 at *; try generalize Int32.toInt fi = z14 at *; try generalize Int32.toInt li = z15 at *; try generalize Int32.toInt xl = z16 at *; try generalize Int32.toInt (0 : Int32) = z17 at *; try generalize Int32.toInt (3 : Int32) = z18 at *; try generalize Int32.toInt (6 : Int32) = z19 at *; try generalize Int32.toInt k = z20 at *; try generalize Int32.toInt x = z21 at *; omega)
              refine va_iald hx hb hG.1 hP 1 2 rfl rfl b_608 dX9_write_221 ?_
              refine lv_istore (lv' := [(5, .int (rw (((1800 * x) + (6 * k)) + 3).toNatClampNeg)), (4, .int (rw (((1800 * x) + (6 * k)) + 2).toNatClampNeg)), (3, .int (rw (((1800 * x) + (6 * k)) + 1).toNatClampNeg)), (8, .int 0), (0, .ref h0), (1, .int x), (2, .int li), (6, .int sc), (7, .int nm), (9, .int k), (10, .int ((1800 * x) + (6 * k)))]) hx hb dX9_write_222 hl (by decide) rfl (fun ls hl => ?_)
              refine lv_aload_n hx hb dX9_write_224 rfl (lv_at hl 4 rfl) ?_
              refine va_get (D := (dC, dI)) (ci := 9) (v := .ref a0) (C := RX9) (T := TX9) (N := 17) hx hb hts inc_X9_write_9 hown hG.1 hP 0 rfl rfl 1 (by decide) (hts (.fieldLink RX9 13 "MappingDeskModel" "rows" "[I") (by decide +kernel)) (fun _ h9 => h9) rfl dX9_write_225 ?_
              refine lv_iload hx hb dX9_write_228 (lv_at hl 10 rfl) ?_
              refine lv_iconst (v := 4) hx hb dX9_write_230 (by decide) ?_
              refine lv_iadd hx hb dX9_write_231 ?_
              have b_622 : vp_in (((1800 * x) + (6 * k)) + 4) 3600 := by
                have hq9 := hlin (by omega) (by omega) k (by omega) (by omega)
                have q_623 := i_le c_90
                have k_624 : (0 : Int32).toInt = 0 := by decide
                have q_625 := i_eq c_91
                have q_626 := i_le c_518
                try have hq7 := hct x.toNatClampNeg (cl_lt (by omega) (by omega))
                have k_627 : (1800 : Int32).toInt = 1800 := by decide
                have t_628 : ((1800 * x)).toInt = 1800 * (x).toInt := by
                  have z := ti_mul (a := 1800) (b := x) (by rw [show (1800 : Int32).toInt = 1800 from by decide]; omega) (by rw [show (1800 : Int32).toInt = 1800 from by decide]; omega)
                  rw [z, show (1800 : Int32).toInt = 1800 from by decide]
                have k_629 : (6 : Int32).toInt = 6 := by decide
                have t_630 : ((6 * k)).toInt = 6 * (k).toInt := by
                  have z := ti_mul (a := 6) (b := k) (by rw [show (6 : Int32).toInt = 6 from by decide]; omega) (by rw [show (6 : Int32).toInt = 6 from by decide]; omega)
                  rw [z, show (6 : Int32).toInt = 6 from by decide]
                have t_631 := ti_add (a := (1800 * x)) (b := (6 * k)) (by omega) (by omega)
                have k_632 : (4 : Int32).toInt = 4 := by decide
                have t_633 := ti_add (a := ((1800 * x) + (6 * k))) (b := 4) (by omega) (by omega)
                refine vin ?_ ?_
                all_goals (try generalize Int32.toInt (rw (((1800 * x) + (6 * k)) + 2).toNatClampNeg) = z0 at *; try generalize Int32.toInt (rw ((1800 * x) + (6 * k)).toNatClampNeg) = z1 at *; try generalize Int32.toInt (((1800 * x) + (6 * k)) + 4) = z2 at *; try generalize Int32.toInt ((1800 * x) + (6 * k)) = z3 at *; try generalize Int32.toInt (ct x.toNatClampNeg) = z4 at *; try generalize Int32.toInt (1800 * x) = z5 at *; try generalize Int32.toInt r_469.2.1 = z6 at *; try generalize Int32.toInt r_491.2.1 = z7 at *; try generalize Int32.toInt r_543.2.1 = z8 at *; try generalize Int32.toInt r_568.2.1 = z9 at *; try generalize Int32.toInt r_593.2.1 = z10 at *; try generalize Int32.toInt (6 * k) = z11 at *; try generalize Int32.toInt (1800 : Int32) = z12 at *; try generalize Int32.toInt wlz = z13 at *; try generalize Int32.toInt fi = z14 at *; try generalize Int32.toInt li = z15 at *; try generalize Int32.toInt xl = z16 at *; try generalize Int32.toInt (0 : Int32) = z17 at *; try generalize Int32.toInt (4 : Int32) = z18 at *; try generalize Int32.toInt (6 : Int32) = z19 at *; try generalize Int32.toInt k = z20 at *; try generalize Int32.toInt x = z21 at *; omega)
              refine va_iald hx hb hG.1 hP 1 2 rfl rfl b_622 dX9_write_232 ?_
              refine lv_istore (lv' := [(6, .int (rw (((1800 * x) + (6 * k)) + 4).toNatClampNeg)), (5, .int (rw (((1800 * x) + (6 * k)) + 3).toNatClampNeg)), (4, .int (rw (((1800 * x) + (6 * k)) + 2).toNatClampNeg)), (3, .int (rw (((1800 * x) + (6 * k)) + 1).toNatClampNeg)), (8, .int 0), (0, .ref h0), (1, .int x), (2, .int li), (7, .int nm), (9, .int k), (10, .int ((1800 * x) + (6 * k)))]) hx hb dX9_write_233 hl (by decide) rfl (fun ls hl => ?_)
              refine lv_aload_n hx hb dX9_write_235 rfl (lv_at hl 5 rfl) ?_
              refine va_get (D := (dC, dI)) (ci := 9) (v := .ref a0) (C := RX9) (T := TX9) (N := 17) hx hb hts inc_X9_write_9 hown hG.1 hP 0 rfl rfl 1 (by decide) (hts (.fieldLink RX9 13 "MappingDeskModel" "rows" "[I") (by decide +kernel)) (fun _ h9 => h9) rfl dX9_write_236 ?_
              refine lv_iload hx hb dX9_write_239 (lv_at hl 10 rfl) ?_
              refine lv_iconst (v := 5) hx hb dX9_write_241 (by decide) ?_
              refine lv_iadd hx hb dX9_write_242 ?_
              have b_636 : vp_in (((1800 * x) + (6 * k)) + 5) 3600 := by
                have hq9 := hlin (by omega) (by omega) k (by omega) (by omega)
                have q_637 := i_le c_90
                have k_638 : (0 : Int32).toInt = 0 := by decide
                have q_639 := i_eq c_91
                have q_640 := i_le c_518
                try have hq7 := hct x.toNatClampNeg (cl_lt (by omega) (by omega))
                have k_641 : (1800 : Int32).toInt = 1800 := by decide
                have t_642 : ((1800 * x)).toInt = 1800 * (x).toInt := by
                  have z := ti_mul (a := 1800) (b := x) (by rw [show (1800 : Int32).toInt = 1800 from by decide]; omega) (by rw [show (1800 : Int32).toInt = 1800 from by decide]; omega)
                  rw [z, show (1800 : Int32).toInt = 1800 from by decide]
                have k_643 : (6 : Int32).toInt = 6 := by decide
                have t_644 : ((6 * k)).toInt = 6 * (k).toInt := by
                  have z := ti_mul (a := 6) (b := k) (by rw [show (6 : Int32).toInt = 6 from by decide]; omega) (by rw [show (6 : Int32).toInt = 6 from by decide]; omega)
                  rw [z, show (6 : Int32).toInt = 6 from by decide]
                have t_645 := ti_add (a := (1800 * x)) (b := (6 * k)) (by omega) (by omega)
                have k_646 : (5 : Int32).toInt = 5 := by decide
                have t_647 := ti_add (a := ((1800 * x) + (6 * k))) (b := 5) (by omega) (by omega)
                refine vin ?_ ?_
                all_goals (try generalize Int32.toInt (rw (((1800 * x) + (6 * k)) + 2).toNatClampNeg) = z0 at *; try generalize Int32.toInt (rw ((1800 * x) + (6 * k)).toNatClampNeg) = z1 at *; try generalize Int32.toInt (((1800 * x) + (6 * k)) + 5) = z2 at *; try generalize Int32.toInt ((1800 * x) + (6 * k)) = z3 at *; try generalize Int32.toInt (ct x.toNatClampNeg) = z4 at *; try generalize Int32.toInt (1800 * x) = z5 at *; try generalize Int32.toInt r_469.2.1 = z6 at *; try generalize Int32.toInt r_491.2.1 = z7 at *; try generalize Int32.toInt r_543.2.1 = z8 at *; try generalize Int32.toInt r_568.2.1 = z9 at *; try generalize Int32.toInt r_593.2.1 = z10 at *; try generalize Int32.toInt (6 * k) = z11 at *; try generalize Int32.toInt (1800 : Int32) = z12 at *; try generalize Int32.toInt wlz = z13 at *; try generalize Int32.toInt fi = z14 at *; try generalize Int32.toInt li = z15 at *; try generalize Int32.toInt xl = z16 at *; try generalize Int32.toInt (0 : Int32) = z17 at *; try generalize Int32.toInt (5 : Int32) = z18 at *; try generalize Int32.toInt (6 : Int32) = z19 at *; try generalize Int32.toInt k = z20 at *; try generalize Int32.toInt x = z21 at *; omega)
              refine va_iald hx hb hG.1 hP 1 2 rfl rfl b_636 dX9_write_243 ?_
              refine lv_if_ge (tgt := 250) hx hb dX9_write_244 (by decide) (fun c_650 => ?_) (fun c_650 => ?_)
              · rw [if_pos c_650] at hR
                refine lv_aload_n hx hb dX9_write_250 rfl (lv_at hl 5 rfl) ?_
                refine lv_aload_n hx hb dX9_write_251 rfl (lv_at hl 5 rfl) ?_
                refine va_get (D := (dC, dI)) (ci := 9) (v := .ref a0) (C := RX9) (T := TX9) (N := 17) hx hb hts inc_X9_write_9 hown hG.1 hP 0 rfl rfl 1 (by decide) (hts (.fieldLink RX9 13 "MappingDeskModel" "rows" "[I") (by decide +kernel)) (fun _ h9 => h9) rfl dX9_write_252 ?_
                refine lv_iload hx hb dX9_write_255 (lv_at hl 10 rfl) ?_
                refine lv_iconst (v := 5) hx hb dX9_write_257 (by decide) ?_
                refine lv_iadd hx hb dX9_write_258 ?_
                have b_651 : vp_in (((1800 * x) + (6 * k)) + 5) 3600 := by
                  have hq9 := hlin (by omega) (by omega) k (by omega) (by omega)
                  have q_652 := i_le c_90
                  have k_653 : (0 : Int32).toInt = 0 := by decide
                  have q_654 := i_eq c_91
                  have q_655 := i_le c_518
                  have q_656 := i_le c_650
                  try have hq7 := hct x.toNatClampNeg (cl_lt (by omega) (by omega))
                  have k_657 : (1800 : Int32).toInt = 1800 := by decide
                  have t_658 : ((1800 * x)).toInt = 1800 * (x).toInt := by
                    have z := ti_mul (a := 1800) (b := x) (by rw [show (1800 : Int32).toInt = 1800 from by decide]; omega) (by rw [show (1800 : Int32).toInt = 1800 from by decide]; omega)
                    rw [z, show (1800 : Int32).toInt = 1800 from by decide]
                  have k_659 : (6 : Int32).toInt = 6 := by decide
                  have t_660 : ((6 * k)).toInt = 6 * (k).toInt := by
                    have z := ti_mul (a := 6) (b := k) (by rw [show (6 : Int32).toInt = 6 from by decide]; omega) (by rw [show (6 : Int32).toInt = 6 from by decide]; omega)
                    rw [z, show (6 : Int32).toInt = 6 from by decide]
                  have t_661 := ti_add (a := (1800 * x)) (b := (6 * k)) (by omega) (by omega)
                  have k_662 : (5 : Int32).toInt = 5 := by decide
                  have t_663 := ti_add (a := ((1800 * x) + (6 * k))) (b := 5) (by omega) (by omega)
                  refine vin ?_ ?_
                  all_goals (try generalize Int32.toInt (rw (((1800 * x) + (6 * k)) + 2).toNatClampNeg) = z0 at *; try generalize Int32.toInt (rw (((1800 * x) + (6 * k)) + 5).toNatClampNeg) = z1 at *; try generalize Int32.toInt (rw ((1800 * x) + (6 * k)).toNatClampNeg) = z2 at *; try generalize Int32.toInt (((1800 * x) + (6 * k)) + 5) = z3 at *; try generalize Int32.toInt ((1800 * x) + (6 * k)) = z4 at *; try generalize Int32.toInt (ct x.toNatClampNeg) = z5 at *; try generalize Int32.toInt (1800 * x) = z6 at *; try generalize Int32.toInt r_469.2.1 = z7 at *; try generalize Int32.toInt r_491.2.1 = z8 at *; try generalize Int32.toInt r_543.2.1 = z9 at *; try generalize Int32.toInt r_568.2.1 = z10 at *; try generalize Int32.toInt r_593.2.1 = z11 at *; try generalize Int32.toInt (6 * k) = z12 at *; try generalize Int32.toInt (1800 : Int32) = z13 at *; try generalize Int32.toInt wlz = z14 at *; try generalize Int32.toInt fi = z15 at *; try generalize Int32.toInt li = z16 at *; try generalize Int32.toInt xl = z17 at *; try generalize Int32.toInt (0 : Int32) = z18 at *; try generalize Int32.toInt (5 : Int32) = z19 at *; try generalize Int32.toInt (6 : Int32) = z20 at *; try generalize Int32.toInt k = z21 at *; try generalize Int32.toInt x = z22 at *; omega)
                refine va_iald hx hb hG.1 hP 1 2 rfl rfl b_651 dX9_write_259 ?_
                refine lv_iload hx hb dX9_write_260 (lv_at hl 8 rfl) ?_
                refine lv_isub hx hb dX9_write_262 ?_
                have p_666 : 0 ≤ r_593.2.1.toInt := by
                  have hq9 := hlin (by omega) (by omega) k (by omega) (by omega)
                  have q_667 := i_le c_90
                  have k_668 : (0 : Int32).toInt = 0 := by decide
                  have q_669 := i_eq c_91
                  have q_670 := i_le c_518
                  have q_671 := i_le c_650
                  try have hq7 := hct x.toNatClampNeg (cl_lt (by omega) (by omega))
                  try generalize Int32.toInt (rw (((1800 * x) + (6 * k)) + 2).toNatClampNeg) = z0 at *
                  try generalize Int32.toInt (rw (((1800 * x) + (6 * k)) + 5).toNatClampNeg) = z1 at *
                  try generalize Int32.toInt (rw ((1800 * x) + (6 * k)).toNatClampNeg) = z2 at *
                  try generalize Int32.toInt (ct x.toNatClampNeg) = z3 at *
                  try generalize Int32.toInt r_469.2.1 = z4 at *
                  try generalize Int32.toInt r_491.2.1 = z5 at *
                  try generalize Int32.toInt r_543.2.1 = z6 at *
                  try generalize Int32.toInt r_568.2.1 = z7 at *
                  try generalize Int32.toInt r_593.2.1 = z8 at *
                  try generalize Int32.toInt wlz = z9 at *
                  try generalize Int32.toInt fi = z10 at *
                  try generalize Int32.toInt li = z11 at *
                  try generalize Int32.toInt xl = z12 at *
                  try generalize Int32.toInt (0 : Int32) = z13 at *
                  try generalize Int32.toInt k = z14 at *
                  try generalize Int32.toInt x = z15 at *
                  first | omega | exact ⟨by omega, by omega⟩
                have p_672 : r_593.2.1.toInt ≤ 6000 := by
                  have hq9 := hlin (by omega) (by omega) k (by omega) (by omega)
                  have q_673 := i_le c_90
                  have k_674 : (0 : Int32).toInt = 0 := by decide
                  have q_675 := i_eq c_91
                  have q_676 := i_le c_518
                  have q_677 := i_le c_650
                  try have hq7 := hct x.toNatClampNeg (cl_lt (by omega) (by omega))
                  try generalize Int32.toInt (rw (((1800 * x) + (6 * k)) + 2).toNatClampNeg) = z0 at *
                  try generalize Int32.toInt (rw (((1800 * x) + (6 * k)) + 5).toNatClampNeg) = z1 at *
                  try generalize Int32.toInt (rw ((1800 * x) + (6 * k)).toNatClampNeg) = z2 at *
                  try generalize Int32.toInt (ct x.toNatClampNeg) = z3 at *
                  try generalize Int32.toInt r_469.2.1 = z4 at *
                  try generalize Int32.toInt r_491.2.1 = z5 at *
                  try generalize Int32.toInt r_543.2.1 = z6 at *
                  try generalize Int32.toInt r_568.2.1 = z7 at *
                  try generalize Int32.toInt r_593.2.1 = z8 at *
                  try generalize Int32.toInt wlz = z9 at *
                  try generalize Int32.toInt fi = z10 at *
                  try generalize Int32.toInt li = z11 at *
                  try generalize Int32.toInt xl = z12 at *
                  try generalize Int32.toInt (0 : Int32) = z13 at *
                  try generalize Int32.toInt k = z14 at *
                  try generalize Int32.toInt x = z15 at *
                  first | omega | exact ⟨by omega, by omega⟩
                have hPc := hP.sub (ws' := [(h0, .inr (9, [.int 0, .ref a0, .ref a1, .ref a2, .int dc, .ref a3, .int tl, .ref a4, .int xl, .int fo, .int fa, .ref a5, .int mn, .ref a6, .int r_593.1, .ref a7, .int r_593.2.1])), (a7, .inl (cB, 6000, .inl r_593.2.2))]) [0, 4] rfl
                have hDc := hD.sub (ws' := [(h0, .inr (9, [.int 0, .ref a0, .ref a1, .ref a2, .int dc, .ref a3, .int tl, .ref a4, .int xl, .int fo, .int fa, .ref a5, .int mn, .ref a6, .int r_593.1, .ref a7, .int r_593.2.1])), (a7, .inl (cB, 6000, .inl r_593.2.2))]) [0, 4] (by decide) rfl
                have hFc := va_free (wc := [(h0, .inr (9, [.int 0, .ref a0, .ref a1, .ref a2, .int dc, .ref a3, .int tl, .ref a4, .int xl, .int fo, .int fa, .ref a5, .int mn, .ref a6, .int r_593.1, .ref a7, .int r_593.2.1])), (a7, .inl (cB, 6000, .inl r_593.2.2))]) hD hS hA [0, 4] rfl
                refine va_callv (va_runV (As := [.int ((rw (((1800 * x) + (6 * k)) + 5).toNatClampNeg) - nm)]) (rest := []) ⟨hx, hb, hml, hown, hts⟩ (c_X9_addNumber l dC dI cB cC cI cJ H.size h0 a0 a1 a2 a3 a4 a5 a6 a7 0 dc tl xl fo fa mn r_593.1 r_593.2.1 r_593.2.2 ((rw (((1800 * x) + (6 * k)) + 5).toNatClampNeg) - nm) p_666 p_672) (cwV 1 hts gX9_write_X9_addNumber rfl rfl rfl (by decide +kernel) ⟨(Nat.le_of_ble_eq_true rfl), (Nat.le_of_ble_eq_true rfl)⟩) ⟨cP_blind, va_recv hG.1 hPc (ci := 9) (q0 := 0) rfl rfl, cP_pre hPc hG hDc⟩ rfl rfl hl.1 rfl (lv_room (Nat.le_of_ble_eq_true rfl)) dX9_write_263 ⟨Nat.le_of_ble_eq_true rfl, Nat.le_of_ble_eq_true rfl⟩) hS (fun q _ h => hFc q h) hFc (fun u t H1 locs ht hvm hw hB hz1 hk1 hS => ?_)
                obtain ⟨hP1, hD1⟩ := hB
                rw [ht] at hP1
                generalize hr_678 : fX9_addNumber 0 dc tl xl fo fa mn r_593.1 r_593.2.1 r_593.2.2 ((rw (((1800 * x) + (6 * k)) + 5).toNatClampNeg) - nm) = r_678 at hP1 hD1 hw
                have er_678_0 := hw
                rw [bnd_eq hr_678] at hR
                obtain ⟨hP, hD⟩ := va_join (wr := [(a0, .inl (cI, 3600, .inl rw)), (a1, .inl (cI, 2, .inl ct)), (a4, .inl (cB, 6000, .inl tx))]) (w1 := [(h0, .inr (9, [.int 0, .ref a0, .ref a1, .ref a2, .int dc, .ref a3, .int tl, .ref a4, .int xl, .int fo, .int fa, .ref a5, .int mn, .ref a6, .int r_678.1, .ref a7, .int r_678.2.1])), (a7, .inl (cB, 6000, .inl r_678.2.2))]) hP hD [0, 4] [1, 2, 3] rfl rfl (by decide) (by decide) hk1 hFc hP1 hD1
                generalize H1 = H at hP hS ⊢
                have hP := hP.sub (ws' := [(h0, .inr (9, [.int 0, .ref a0, .ref a1, .ref a2, .int dc, .ref a3, .int tl, .ref a4, .int xl, .int fo, .int fa, .ref a5, .int mn, .ref a6, .int r_678.1, .ref a7, .int r_678.2.1])), (a0, .inl (cI, 3600, .inl rw)), (a1, .inl (cI, 2, .inl ct)), (a4, .inl (cB, 6000, .inl tx)), (a7, .inl (cB, 6000, .inl r_678.2.2))]) [3, 0, 1, 2, 4] rfl
                have hD := hD.sub (ws' := [(h0, .inr (9, [.int 0, .ref a0, .ref a1, .ref a2, .int dc, .ref a3, .int tl, .ref a4, .int xl, .int fo, .int fa, .ref a5, .int mn, .ref a6, .int r_678.1, .ref a7, .int r_678.2.1])), (a0, .inl (cI, 3600, .inl rw)), (a1, .inl (cI, 2, .inl ct)), (a4, .inl (cB, 6000, .inl tx)), (a7, .inl (cB, 6000, .inl r_678.2.2))]) [3, 0, 1, 2, 4] (by decide) rfl
                refine lv_aload_n hx hb dX9_write_266 rfl (lv_at hl 5 rfl) ?_
                refine va_get (D := (dC, dI)) (ci := 9) (v := .ref a0) (C := RX9) (T := TX9) (N := 17) hx hb hts inc_X9_write_9 hown hG.1 hP 0 rfl rfl 1 (by decide) (hts (.fieldLink RX9 13 "MappingDeskModel" "rows" "[I") (by decide +kernel)) (fun _ h9 => h9) rfl dX9_write_267 ?_
                refine lv_iload hx hb dX9_write_270 (lv_at hl 10 rfl) ?_
                refine lv_iconst (v := 5) hx hb dX9_write_272 (by decide) ?_
                refine lv_iadd hx hb dX9_write_273 ?_
                have b_679 : vp_in (((1800 * x) + (6 * k)) + 5) 3600 := by
                  have hq9 := hlin (by omega) (by omega) k (by omega) (by omega)
                  have q_680 := i_le c_90
                  have k_681 : (0 : Int32).toInt = 0 := by decide
                  have q_682 := i_eq c_91
                  have q_683 := i_le c_518
                  have q_684 := i_le c_650
                  try have hq7 := hct x.toNatClampNeg (cl_lt (by omega) (by omega))
                  have k_685 : (1800 : Int32).toInt = 1800 := by decide
                  have t_686 : ((1800 * x)).toInt = 1800 * (x).toInt := by
                    have z := ti_mul (a := 1800) (b := x) (by rw [show (1800 : Int32).toInt = 1800 from by decide]; omega) (by rw [show (1800 : Int32).toInt = 1800 from by decide]; omega)
                    rw [z, show (1800 : Int32).toInt = 1800 from by decide]
                  have k_687 : (6 : Int32).toInt = 6 := by decide
                  have t_688 : ((6 * k)).toInt = 6 * (k).toInt := by
                    have z := ti_mul (a := 6) (b := k) (by rw [show (6 : Int32).toInt = 6 from by decide]; omega) (by rw [show (6 : Int32).toInt = 6 from by decide]; omega)
                    rw [z, show (6 : Int32).toInt = 6 from by decide]
                  have t_689 := ti_add (a := (1800 * x)) (b := (6 * k)) (by omega) (by omega)
                  have k_690 : (5 : Int32).toInt = 5 := by decide
                  have t_691 := ti_add (a := ((1800 * x) + (6 * k))) (b := 5) (by omega) (by omega)
                  refine vin ?_ ?_
                  all_goals (try generalize Int32.toInt (rw (((1800 * x) + (6 * k)) + 2).toNatClampNeg) = z0 at *; try generalize Int32.toInt (rw (((1800 * x) + (6 * k)) + 5).toNatClampNeg) = z1 at *; try generalize Int32.toInt (rw ((1800 * x) + (6 * k)).toNatClampNeg) = z2 at *; try generalize Int32.toInt (((1800 * x) + (6 * k)) + 5) = z3 at *; try generalize Int32.toInt ((1800 * x) + (6 * k)) = z4 at *; try generalize Int32.toInt (ct x.toNatClampNeg) = z5 at *; try generalize Int32.toInt (1800 * x) = z6 at *; try generalize Int32.toInt r_469.2.1 = z7 at *; try generalize Int32.toInt r_491.2.1 = z8 at *; try generalize Int32.toInt r_543.2.1 = z9 at *; try generalize Int32.toInt r_568.2.1 = z10 at *; try generalize Int32.toInt r_593.2.1 = z11 at *; try generalize Int32.toInt r_678.2.1 = z12 at *; try generalize Int32.toInt (6 * k) = z13 at *; try generalize Int32.toInt (1800 : Int32) = z14 at *; try generalize Int32.toInt wlz = z15 at *; try generalize Int32.toInt fi = z16 at *; try generalize Int32.toInt li = z17 at *; try generalize Int32.toInt xl = z18 at *; try generalize Int32.toInt (0 : Int32) = z19 at *; try generalize Int32.toInt (5 : Int32) = z20 at *; try generalize Int32.toInt (6 : Int32) = z21 at *; try generalize Int32.toInt k = z22 at *; try generalize Int32.toInt x = z23 at *; omega)
                refine va_iald hx hb hG.1 hP 1 2 rfl rfl b_679 dX9_write_274 ?_
                refine lv_istore (lv' := [(7, .int (rw (((1800 * x) + (6 * k)) + 5).toNatClampNeg)), (6, .int (rw (((1800 * x) + (6 * k)) + 4).toNatClampNeg)), (5, .int (rw (((1800 * x) + (6 * k)) + 3).toNatClampNeg)), (4, .int (rw (((1800 * x) + (6 * k)) + 2).toNatClampNeg)), (3, .int (rw (((1800 * x) + (6 * k)) + 1).toNatClampNeg)), (8, .int 0), (0, .ref h0), (1, .int x), (2, .int li), (9, .int k), (10, .int ((1800 * x) + (6 * k)))]) hx hb dX9_write_275 hl (by decide) rfl (fun ls hl => ?_)
                refine lv_iinc (v := (k + 1)) (lv' := [(9, .int (k + 1)), (7, .int (rw (((1800 * x) + (6 * k)) + 5).toNatClampNeg)), (6, .int (rw (((1800 * x) + (6 * k)) + 4).toNatClampNeg)), (5, .int (rw (((1800 * x) + (6 * k)) + 3).toNatClampNeg)), (4, .int (rw (((1800 * x) + (6 * k)) + 2).toNatClampNeg)), (3, .int (rw (((1800 * x) + (6 * k)) + 1).toNatClampNeg)), (8, .int 0), (0, .ref h0), (1, .int x), (2, .int li), (10, .int ((1800 * x) + (6 * k)))]) hx hb dX9_write_277 hl (k := 9) rfl rfl (by decide) rfl (fun ls hl => ?_)
                refine lv_goto (tgt := 48) hx hb dX9_write_280 (by decide) ?_
                have v_699 : 0 ≤ x.toInt := by
                  first | exact hx0 | assumption
                have v_700 : x.toInt ≤ 1 := by
                  first | exact hx1 | assumption
                have v_701 : 0 ≤ ((k + 1)).toInt := by
                  have hq9 := hlin (by omega) (by omega) k (by omega) (by omega)
                  have q_702 := i_le c_90
                  have k_703 : (0 : Int32).toInt = 0 := by decide
                  have q_704 := i_eq c_91
                  have q_705 := i_le c_518
                  have q_706 := i_le c_650
                  try have hq7 := hct x.toNatClampNeg (cl_lt (by omega) (by omega))
                  have k_707 : (1 : Int32).toInt = 1 := by decide
                  have t_708 := ti_add (a := k) (b := 1) (by omega) (by omega)
                  try generalize Int32.toInt (rw (((1800 * x) + (6 * k)) + 2).toNatClampNeg) = z0 at *
                  try generalize Int32.toInt (rw (((1800 * x) + (6 * k)) + 5).toNatClampNeg) = z1 at *
                  try generalize Int32.toInt (rw ((1800 * x) + (6 * k)).toNatClampNeg) = z2 at *
                  try generalize Int32.toInt (ct x.toNatClampNeg) = z3 at *
                  try generalize Int32.toInt r_469.2.1 = z4 at *
                  try generalize Int32.toInt r_491.2.1 = z5 at *
                  try generalize Int32.toInt r_543.2.1 = z6 at *
                  try generalize Int32.toInt r_568.2.1 = z7 at *
                  try generalize Int32.toInt r_593.2.1 = z8 at *
                  try generalize Int32.toInt r_678.2.1 = z9 at *
                  try generalize Int32.toInt (k + 1) = z10 at *
                  try generalize Int32.toInt wlz = z11 at *
                  try generalize Int32.toInt fi = z12 at *
                  try generalize Int32.toInt li = z13 at *
                  try generalize Int32.toInt xl = z14 at *
                  try generalize Int32.toInt (0 : Int32) = z15 at *
                  try generalize Int32.toInt (1 : Int32) = z16 at *
                  try generalize Int32.toInt k = z17 at *
                  try generalize Int32.toInt x = z18 at *
                  omega
                have v_709 : 0 ≤ li.toInt := by
                  have hq9 := hlin (by omega) (by omega) k (by omega) (by omega)
                  have q_710 := i_le c_90
                  have k_711 : (0 : Int32).toInt = 0 := by decide
                  have q_712 := i_eq c_91
                  have q_713 := i_le c_518
                  have q_714 := i_le c_650
                  try have hq7 := hct x.toNatClampNeg (cl_lt (by omega) (by omega))
                  try generalize Int32.toInt (rw (((1800 * x) + (6 * k)) + 2).toNatClampNeg) = z0 at *
                  try generalize Int32.toInt (rw (((1800 * x) + (6 * k)) + 5).toNatClampNeg) = z1 at *
                  try generalize Int32.toInt (rw ((1800 * x) + (6 * k)).toNatClampNeg) = z2 at *
                  try generalize Int32.toInt (ct x.toNatClampNeg) = z3 at *
                  try generalize Int32.toInt r_469.2.1 = z4 at *
                  try generalize Int32.toInt r_491.2.1 = z5 at *
                  try generalize Int32.toInt r_543.2.1 = z6 at *
                  try generalize Int32.toInt r_568.2.1 = z7 at *
                  try generalize Int32.toInt r_593.2.1 = z8 at *
                  try generalize Int32.toInt r_678.2.1 = z9 at *
                  try generalize Int32.toInt wlz = z10 at *
                  try generalize Int32.toInt fi = z11 at *
                  try generalize Int32.toInt li = z12 at *
                  try generalize Int32.toInt xl = z13 at *
                  try generalize Int32.toInt (0 : Int32) = z14 at *
                  try generalize Int32.toInt k = z15 at *
                  try generalize Int32.toInt x = z16 at *
                  omega
                have v_715 : li.toInt ≤ 199 := by
                  have hq9 := hlin (by omega) (by omega) k (by omega) (by omega)
                  have q_716 := i_le c_90
                  have k_717 : (0 : Int32).toInt = 0 := by decide
                  have q_718 := i_eq c_91
                  have q_719 := i_le c_518
                  have q_720 := i_le c_650
                  try have hq7 := hct x.toNatClampNeg (cl_lt (by omega) (by omega))
                  try generalize Int32.toInt (rw (((1800 * x) + (6 * k)) + 2).toNatClampNeg) = z0 at *
                  try generalize Int32.toInt (rw (((1800 * x) + (6 * k)) + 5).toNatClampNeg) = z1 at *
                  try generalize Int32.toInt (rw ((1800 * x) + (6 * k)).toNatClampNeg) = z2 at *
                  try generalize Int32.toInt (ct x.toNatClampNeg) = z3 at *
                  try generalize Int32.toInt r_469.2.1 = z4 at *
                  try generalize Int32.toInt r_491.2.1 = z5 at *
                  try generalize Int32.toInt r_543.2.1 = z6 at *
                  try generalize Int32.toInt r_568.2.1 = z7 at *
                  try generalize Int32.toInt r_593.2.1 = z8 at *
                  try generalize Int32.toInt r_678.2.1 = z9 at *
                  try generalize Int32.toInt wlz = z10 at *
                  try generalize Int32.toInt fi = z11 at *
                  try generalize Int32.toInt li = z12 at *
                  try generalize Int32.toInt xl = z13 at *
                  try generalize Int32.toInt (0 : Int32) = z14 at *
                  try generalize Int32.toInt k = z15 at *
                  try generalize Int32.toInt x = z16 at *
                  omega
                have v_721 : 0 ≤ r_678.2.1.toInt := by
                  have hq9 := hlin (by omega) (by omega) k (by omega) (by omega)
                  have q_722 := i_le c_90
                  have k_723 : (0 : Int32).toInt = 0 := by decide
                  have q_724 := i_eq c_91
                  have q_725 := i_le c_518
                  have q_726 := i_le c_650
                  try have hq7 := hct x.toNatClampNeg (cl_lt (by omega) (by omega))
                  try generalize Int32.toInt (rw (((1800 * x) + (6 * k)) + 2).toNatClampNeg) = z0 at *
                  try generalize Int32.toInt (rw (((1800 * x) + (6 * k)) + 5).toNatClampNeg) = z1 at *
                  try generalize Int32.toInt (rw ((1800 * x) + (6 * k)).toNatClampNeg) = z2 at *
                  try generalize Int32.toInt (ct x.toNatClampNeg) = z3 at *
                  try generalize Int32.toInt r_469.2.1 = z4 at *
                  try generalize Int32.toInt r_491.2.1 = z5 at *
                  try generalize Int32.toInt r_543.2.1 = z6 at *
                  try generalize Int32.toInt r_568.2.1 = z7 at *
                  try generalize Int32.toInt r_593.2.1 = z8 at *
                  try generalize Int32.toInt r_678.2.1 = z9 at *
                  try generalize Int32.toInt wlz = z10 at *
                  try generalize Int32.toInt fi = z11 at *
                  try generalize Int32.toInt li = z12 at *
                  try generalize Int32.toInt xl = z13 at *
                  try generalize Int32.toInt (0 : Int32) = z14 at *
                  try generalize Int32.toInt k = z15 at *
                  try generalize Int32.toInt x = z16 at *
                  omega
                have v_727 : r_678.2.1.toInt ≤ 6000 := by
                  have hq9 := hlin (by omega) (by omega) k (by omega) (by omega)
                  have q_728 := i_le c_90
                  have k_729 : (0 : Int32).toInt = 0 := by decide
                  have q_730 := i_eq c_91
                  have q_731 := i_le c_518
                  have q_732 := i_le c_650
                  try have hq7 := hct x.toNatClampNeg (cl_lt (by omega) (by omega))
                  try generalize Int32.toInt (rw (((1800 * x) + (6 * k)) + 2).toNatClampNeg) = z0 at *
                  try generalize Int32.toInt (rw (((1800 * x) + (6 * k)) + 5).toNatClampNeg) = z1 at *
                  try generalize Int32.toInt (rw ((1800 * x) + (6 * k)).toNatClampNeg) = z2 at *
                  try generalize Int32.toInt (ct x.toNatClampNeg) = z3 at *
                  try generalize Int32.toInt r_469.2.1 = z4 at *
                  try generalize Int32.toInt r_491.2.1 = z5 at *
                  try generalize Int32.toInt r_543.2.1 = z6 at *
                  try generalize Int32.toInt r_568.2.1 = z7 at *
                  try generalize Int32.toInt r_593.2.1 = z8 at *
                  try generalize Int32.toInt r_678.2.1 = z9 at *
                  try generalize Int32.toInt wlz = z10 at *
                  try generalize Int32.toInt fi = z11 at *
                  try generalize Int32.toInt li = z12 at *
                  try generalize Int32.toInt xl = z13 at *
                  try generalize Int32.toInt (0 : Int32) = z14 at *
                  try generalize Int32.toInt k = z15 at *
                  try generalize Int32.toInt x = z16 at *
                  omega
                have v_733 : ((k + 1)).toInt ≤ (ct x.toNatClampNeg).toInt := by
                  have hq9 := hlin (by omega) (by omega) k (by omega) (by omega)
                  have q_734 := i_le c_90
                  have k_735 : (0 : Int32).toInt = 0 := by decide
                  have q_736 := i_eq c_91
                  have q_737 := i_le c_518
                  have q_738 := i_le c_650
                  try have hq7 := hct x.toNatClampNeg (cl_lt (by omega) (by omega))
                  have k_739 : (1 : Int32).toInt = 1 := by decide
                  have t_740 := ti_add (a := k) (b := 1) (by omega) (by omega)
                  try generalize Int32.toInt (rw (((1800 * x) + (6 * k)) + 2).toNatClampNeg) = z0 at *
                  try generalize Int32.toInt (rw (((1800 * x) + (6 * k)) + 5).toNatClampNeg) = z1 at *
                  try generalize Int32.toInt (rw ((1800 * x) + (6 * k)).toNatClampNeg) = z2 at *
                  try generalize Int32.toInt (ct x.toNatClampNeg) = z3 at *
                  try generalize Int32.toInt r_469.2.1 = z4 at *
                  try generalize Int32.toInt r_491.2.1 = z5 at *
                  try generalize Int32.toInt r_543.2.1 = z6 at *
                  try generalize Int32.toInt r_568.2.1 = z7 at *
                  try generalize Int32.toInt r_593.2.1 = z8 at *
                  try generalize Int32.toInt r_678.2.1 = z9 at *
                  try generalize Int32.toInt (k + 1) = z10 at *
                  try generalize Int32.toInt wlz = z11 at *
                  try generalize Int32.toInt fi = z12 at *
                  try generalize Int32.toInt li = z13 at *
                  try generalize Int32.toInt xl = z14 at *
                  try generalize Int32.toInt (0 : Int32) = z15 at *
                  try generalize Int32.toInt (1 : Int32) = z16 at *
                  try generalize Int32.toInt k = z17 at *
                  try generalize Int32.toInt x = z18 at *
                  omega
                have v_741 : 3 * ((ct x.toNatClampNeg).toInt - ((k + 1)).toInt) + (200 - li.toInt) + 1 < ((n : Nat) : Int) := by
                  have hq9 := hlin (by omega) (by omega) k (by omega) (by omega)
                  have q_742 := i_le c_90
                  have k_743 : (0 : Int32).toInt = 0 := by decide
                  have q_744 := i_eq c_91
                  have q_745 := i_le c_518
                  have q_746 := i_le c_650
                  try have hq7 := hct x.toNatClampNeg (cl_lt (by omega) (by omega))
                  have k_747 : (1 : Int32).toInt = 1 := by decide
                  have t_748 := ti_add (a := k) (b := 1) (by omega) (by omega)
                  try generalize Int32.toInt (rw (((1800 * x) + (6 * k)) + 2).toNatClampNeg) = z0 at *
                  try generalize Int32.toInt (rw (((1800 * x) + (6 * k)) + 5).toNatClampNeg) = z1 at *
                  try generalize Int32.toInt (rw ((1800 * x) + (6 * k)).toNatClampNeg) = z2 at *
                  try generalize Int32.toInt (ct x.toNatClampNeg) = z3 at *
                  try generalize Int32.toInt r_469.2.1 = z4 at *
                  try generalize Int32.toInt r_491.2.1 = z5 at *
                  try generalize Int32.toInt r_543.2.1 = z6 at *
                  try generalize Int32.toInt r_568.2.1 = z7 at *
                  try generalize Int32.toInt r_593.2.1 = z8 at *
                  try generalize Int32.toInt r_678.2.1 = z9 at *
                  try generalize Int32.toInt (k + 1) = z10 at *
                  try generalize Int32.toInt wlz = z11 at *
                  try generalize Int32.toInt fi = z12 at *
                  try generalize Int32.toInt li = z13 at *
                  try generalize Int32.toInt xl = z14 at *
                  try generalize Int32.toInt (0 : Int32) = z15 at *
                  try generalize Int32.toInt (1 : Int32) = z16 at *
                  try generalize Int32.toInt k = z17 at *
                  try generalize Int32.toInt x = z18 at *
                  omega
                exact ih_48 (li) ((rw (((1800 * x) + (6 * k)) + 1).toNatClampNeg)) ((rw (((1800 * x) + (6 * k)) + 2).toNatClampNeg)) ((rw (((1800 * x) + (6 * k)) + 3).toNatClampNeg)) ((rw (((1800 * x) + (6 * k)) + 4).toNatClampNeg)) ((rw (((1800 * x) + (6 * k)) + 5).toNatClampNeg)) (0) ((k + 1)) (r_678.1) (r_678.2.1) (r_678.2.2) _ _ ls hR v_699 v_700 v_701 v_709 v_715 v_721 v_727 v_733 v_741 hP hD hS (lv_sub hl [7, 8, 9, 5, 4, 3, 2, 1, 6, 0] rfl)
              · rw [if_neg c_650] at hR
                refine lv_goto (tgt := 277) hx hb dX9_write_247 (by decide) ?_
                refine lv_iinc (v := (k + 1)) (lv' := [(9, .int (k + 1)), (6, .int (rw (((1800 * x) + (6 * k)) + 4).toNatClampNeg)), (5, .int (rw (((1800 * x) + (6 * k)) + 3).toNatClampNeg)), (4, .int (rw (((1800 * x) + (6 * k)) + 2).toNatClampNeg)), (3, .int (rw (((1800 * x) + (6 * k)) + 1).toNatClampNeg)), (8, .int 0), (0, .ref h0), (1, .int x), (2, .int li), (7, .int nm), (10, .int ((1800 * x) + (6 * k)))]) hx hb dX9_write_277 hl (k := 9) rfl rfl (by decide) rfl (fun ls hl => ?_)
                refine lv_goto (tgt := 48) hx hb dX9_write_280 (by decide) ?_
                have v_754 : 0 ≤ x.toInt := by
                  first | exact hx0 | assumption
                have v_755 : x.toInt ≤ 1 := by
                  first | exact hx1 | assumption
                have v_756 : 0 ≤ ((k + 1)).toInt := by
                  have hq9 := hlin (by omega) (by omega) k (by omega) (by omega)
                  have q_757 := i_le c_90
                  have k_758 : (0 : Int32).toInt = 0 := by decide
                  have q_759 := i_eq c_91
                  have q_760 := i_le c_518
                  have q_761 := i_nle c_650
                  try have hq7 := hct x.toNatClampNeg (cl_lt (by omega) (by omega))
                  have k_762 : (1 : Int32).toInt = 1 := by decide
                  have t_763 := ti_add (a := k) (b := 1) (by omega) (by omega)
                  try generalize Int32.toInt (rw (((1800 * x) + (6 * k)) + 2).toNatClampNeg) = z0 at *
                  try generalize Int32.toInt (rw (((1800 * x) + (6 * k)) + 5).toNatClampNeg) = z1 at *
                  try generalize Int32.toInt (rw ((1800 * x) + (6 * k)).toNatClampNeg) = z2 at *
                  try generalize Int32.toInt (ct x.toNatClampNeg) = z3 at *
                  try generalize Int32.toInt r_469.2.1 = z4 at *
                  try generalize Int32.toInt r_491.2.1 = z5 at *
                  try generalize Int32.toInt r_543.2.1 = z6 at *
                  try generalize Int32.toInt r_568.2.1 = z7 at *
                  try generalize Int32.toInt r_593.2.1 = z8 at *
                  try generalize Int32.toInt (k + 1) = z9 at *
                  try generalize Int32.toInt wlz = z10 at *
                  try generalize Int32.toInt fi = z11 at *
                  try generalize Int32.toInt li = z12 at *
                  try generalize Int32.toInt xl = z13 at *
                  try generalize Int32.toInt (0 : Int32) = z14 at *
                  try generalize Int32.toInt (1 : Int32) = z15 at *
                  try generalize Int32.toInt k = z16 at *
                  try generalize Int32.toInt x = z17 at *
                  omega
                have v_764 : 0 ≤ li.toInt := by
                  have hq9 := hlin (by omega) (by omega) k (by omega) (by omega)
                  have q_765 := i_le c_90
                  have k_766 : (0 : Int32).toInt = 0 := by decide
                  have q_767 := i_eq c_91
                  have q_768 := i_le c_518
                  have q_769 := i_nle c_650
                  try have hq7 := hct x.toNatClampNeg (cl_lt (by omega) (by omega))
                  try generalize Int32.toInt (rw (((1800 * x) + (6 * k)) + 2).toNatClampNeg) = z0 at *
                  try generalize Int32.toInt (rw (((1800 * x) + (6 * k)) + 5).toNatClampNeg) = z1 at *
                  try generalize Int32.toInt (rw ((1800 * x) + (6 * k)).toNatClampNeg) = z2 at *
                  try generalize Int32.toInt (ct x.toNatClampNeg) = z3 at *
                  try generalize Int32.toInt r_469.2.1 = z4 at *
                  try generalize Int32.toInt r_491.2.1 = z5 at *
                  try generalize Int32.toInt r_543.2.1 = z6 at *
                  try generalize Int32.toInt r_568.2.1 = z7 at *
                  try generalize Int32.toInt r_593.2.1 = z8 at *
                  try generalize Int32.toInt wlz = z9 at *
                  try generalize Int32.toInt fi = z10 at *
                  try generalize Int32.toInt li = z11 at *
                  try generalize Int32.toInt xl = z12 at *
                  try generalize Int32.toInt (0 : Int32) = z13 at *
                  try generalize Int32.toInt k = z14 at *
                  try generalize Int32.toInt x = z15 at *
                  omega
                have v_770 : li.toInt ≤ 199 := by
                  have hq9 := hlin (by omega) (by omega) k (by omega) (by omega)
                  have q_771 := i_le c_90
                  have k_772 : (0 : Int32).toInt = 0 := by decide
                  have q_773 := i_eq c_91
                  have q_774 := i_le c_518
                  have q_775 := i_nle c_650
                  try have hq7 := hct x.toNatClampNeg (cl_lt (by omega) (by omega))
                  try generalize Int32.toInt (rw (((1800 * x) + (6 * k)) + 2).toNatClampNeg) = z0 at *
                  try generalize Int32.toInt (rw (((1800 * x) + (6 * k)) + 5).toNatClampNeg) = z1 at *
                  try generalize Int32.toInt (rw ((1800 * x) + (6 * k)).toNatClampNeg) = z2 at *
                  try generalize Int32.toInt (ct x.toNatClampNeg) = z3 at *
                  try generalize Int32.toInt r_469.2.1 = z4 at *
                  try generalize Int32.toInt r_491.2.1 = z5 at *
                  try generalize Int32.toInt r_543.2.1 = z6 at *
                  try generalize Int32.toInt r_568.2.1 = z7 at *
                  try generalize Int32.toInt r_593.2.1 = z8 at *
                  try generalize Int32.toInt wlz = z9 at *
                  try generalize Int32.toInt fi = z10 at *
                  try generalize Int32.toInt li = z11 at *
                  try generalize Int32.toInt xl = z12 at *
                  try generalize Int32.toInt (0 : Int32) = z13 at *
                  try generalize Int32.toInt k = z14 at *
                  try generalize Int32.toInt x = z15 at *
                  omega
                have v_776 : 0 ≤ r_593.2.1.toInt := by
                  have hq9 := hlin (by omega) (by omega) k (by omega) (by omega)
                  have q_777 := i_le c_90
                  have k_778 : (0 : Int32).toInt = 0 := by decide
                  have q_779 := i_eq c_91
                  have q_780 := i_le c_518
                  have q_781 := i_nle c_650
                  try have hq7 := hct x.toNatClampNeg (cl_lt (by omega) (by omega))
                  try generalize Int32.toInt (rw (((1800 * x) + (6 * k)) + 2).toNatClampNeg) = z0 at *
                  try generalize Int32.toInt (rw (((1800 * x) + (6 * k)) + 5).toNatClampNeg) = z1 at *
                  try generalize Int32.toInt (rw ((1800 * x) + (6 * k)).toNatClampNeg) = z2 at *
                  try generalize Int32.toInt (ct x.toNatClampNeg) = z3 at *
                  try generalize Int32.toInt r_469.2.1 = z4 at *
                  try generalize Int32.toInt r_491.2.1 = z5 at *
                  try generalize Int32.toInt r_543.2.1 = z6 at *
                  try generalize Int32.toInt r_568.2.1 = z7 at *
                  try generalize Int32.toInt r_593.2.1 = z8 at *
                  try generalize Int32.toInt wlz = z9 at *
                  try generalize Int32.toInt fi = z10 at *
                  try generalize Int32.toInt li = z11 at *
                  try generalize Int32.toInt xl = z12 at *
                  try generalize Int32.toInt (0 : Int32) = z13 at *
                  try generalize Int32.toInt k = z14 at *
                  try generalize Int32.toInt x = z15 at *
                  omega
                have v_782 : r_593.2.1.toInt ≤ 6000 := by
                  have hq9 := hlin (by omega) (by omega) k (by omega) (by omega)
                  have q_783 := i_le c_90
                  have k_784 : (0 : Int32).toInt = 0 := by decide
                  have q_785 := i_eq c_91
                  have q_786 := i_le c_518
                  have q_787 := i_nle c_650
                  try have hq7 := hct x.toNatClampNeg (cl_lt (by omega) (by omega))
                  try generalize Int32.toInt (rw (((1800 * x) + (6 * k)) + 2).toNatClampNeg) = z0 at *
                  try generalize Int32.toInt (rw (((1800 * x) + (6 * k)) + 5).toNatClampNeg) = z1 at *
                  try generalize Int32.toInt (rw ((1800 * x) + (6 * k)).toNatClampNeg) = z2 at *
                  try generalize Int32.toInt (ct x.toNatClampNeg) = z3 at *
                  try generalize Int32.toInt r_469.2.1 = z4 at *
                  try generalize Int32.toInt r_491.2.1 = z5 at *
                  try generalize Int32.toInt r_543.2.1 = z6 at *
                  try generalize Int32.toInt r_568.2.1 = z7 at *
                  try generalize Int32.toInt r_593.2.1 = z8 at *
                  try generalize Int32.toInt wlz = z9 at *
                  try generalize Int32.toInt fi = z10 at *
                  try generalize Int32.toInt li = z11 at *
                  try generalize Int32.toInt xl = z12 at *
                  try generalize Int32.toInt (0 : Int32) = z13 at *
                  try generalize Int32.toInt k = z14 at *
                  try generalize Int32.toInt x = z15 at *
                  omega
                have v_788 : ((k + 1)).toInt ≤ (ct x.toNatClampNeg).toInt := by
                  have hq9 := hlin (by omega) (by omega) k (by omega) (by omega)
                  have q_789 := i_le c_90
                  have k_790 : (0 : Int32).toInt = 0 := by decide
                  have q_791 := i_eq c_91
                  have q_792 := i_le c_518
                  have q_793 := i_nle c_650
                  try have hq7 := hct x.toNatClampNeg (cl_lt (by omega) (by omega))
                  have k_794 : (1 : Int32).toInt = 1 := by decide
                  have t_795 := ti_add (a := k) (b := 1) (by omega) (by omega)
                  try generalize Int32.toInt (rw (((1800 * x) + (6 * k)) + 2).toNatClampNeg) = z0 at *
                  try generalize Int32.toInt (rw (((1800 * x) + (6 * k)) + 5).toNatClampNeg) = z1 at *
                  try generalize Int32.toInt (rw ((1800 * x) + (6 * k)).toNatClampNeg) = z2 at *
                  try generalize Int32.toInt (ct x.toNatClampNeg) = z3 at *
                  try generalize Int32.toInt r_469.2.1 = z4 at *
                  try generalize Int32.toInt r_491.2.1 = z5 at *
                  try generalize Int32.toInt r_543.2.1 = z6 at *
                  try generalize Int32.toInt r_568.2.1 = z7 at *
                  try generalize Int32.toInt r_593.2.1 = z8 at *
                  try generalize Int32.toInt (k + 1) = z9 at *
                  try generalize Int32.toInt wlz = z10 at *
                  try generalize Int32.toInt fi = z11 at *
                  try generalize Int32.toInt li = z12 at *
                  try generalize Int32.toInt xl = z13 at *
                  try generalize Int32.toInt (0 : Int32) = z14 at *
                  try generalize Int32.toInt (1 : Int32) = z15 at *
                  try generalize Int32.toInt k = z16 at *
                  try generalize Int32.toInt x = z17 at *
                  omega
                have v_796 : 3 * ((ct x.toNatClampNeg).toInt - ((k + 1)).toInt) + (200 - li.toInt) + 1 < ((n : Nat) : Int) := by
                  have hq9 := hlin (by omega) (by omega) k (by omega) (by omega)
                  have q_797 := i_le c_90
                  have k_798 : (0 : Int32).toInt = 0 := by decide
                  have q_799 := i_eq c_91
                  have q_800 := i_le c_518
                  have q_801 := i_nle c_650
                  try have hq7 := hct x.toNatClampNeg (cl_lt (by omega) (by omega))
                  have k_802 : (1 : Int32).toInt = 1 := by decide
                  have t_803 := ti_add (a := k) (b := 1) (by omega) (by omega)
                  try generalize Int32.toInt (rw (((1800 * x) + (6 * k)) + 2).toNatClampNeg) = z0 at *
                  try generalize Int32.toInt (rw (((1800 * x) + (6 * k)) + 5).toNatClampNeg) = z1 at *
                  try generalize Int32.toInt (rw ((1800 * x) + (6 * k)).toNatClampNeg) = z2 at *
                  try generalize Int32.toInt (ct x.toNatClampNeg) = z3 at *
                  try generalize Int32.toInt r_469.2.1 = z4 at *
                  try generalize Int32.toInt r_491.2.1 = z5 at *
                  try generalize Int32.toInt r_543.2.1 = z6 at *
                  try generalize Int32.toInt r_568.2.1 = z7 at *
                  try generalize Int32.toInt r_593.2.1 = z8 at *
                  try generalize Int32.toInt (k + 1) = z9 at *
                  try generalize Int32.toInt wlz = z10 at *
                  try generalize Int32.toInt fi = z11 at *
                  try generalize Int32.toInt li = z12 at *
                  try generalize Int32.toInt xl = z13 at *
                  try generalize Int32.toInt (0 : Int32) = z14 at *
                  try generalize Int32.toInt (1 : Int32) = z15 at *
                  try generalize Int32.toInt k = z16 at *
                  try generalize Int32.toInt x = z17 at *
                  omega
                exact ih_48 (li) ((rw (((1800 * x) + (6 * k)) + 1).toNatClampNeg)) ((rw (((1800 * x) + (6 * k)) + 2).toNatClampNeg)) ((rw (((1800 * x) + (6 * k)) + 3).toNatClampNeg)) ((rw (((1800 * x) + (6 * k)) + 4).toNatClampNeg)) (nm) (0) ((k + 1)) (r_593.1) (r_593.2.1) (r_593.2.2) _ _ ls hR v_754 v_755 v_756 v_764 v_770 v_776 v_782 v_788 v_796 hP hD hS (lv_sub hl [6, 7, 8, 4, 3, 2, 1, 9, 5, 0] rfl)
            · rw [if_neg c_518] at hR
              refine lv_goto (tgt := 277) hx hb dX9_write_151 (by decide) ?_
              refine lv_iinc (v := (k + 1)) (lv' := [(9, .int (k + 1)), (3, .int (rw (((1800 * x) + (6 * k)) + 1).toNatClampNeg)), (8, .int 0), (0, .ref h0), (1, .int x), (2, .int li), (4, .int so), (5, .int sl), (6, .int sc), (7, .int nm), (10, .int ((1800 * x) + (6 * k)))]) hx hb dX9_write_277 hl (k := 9) rfl rfl (by decide) rfl (fun ls hl => ?_)
              refine lv_goto (tgt := 48) hx hb dX9_write_280 (by decide) ?_
              have v_808 : 0 ≤ x.toInt := by
                first | exact hx0 | assumption
              have v_809 : x.toInt ≤ 1 := by
                first | exact hx1 | assumption
              have v_810 : 0 ≤ ((k + 1)).toInt := by
                have hq9 := hlin (by omega) (by omega) k (by omega) (by omega)
                have q_811 := i_le c_90
                have k_812 : (0 : Int32).toInt = 0 := by decide
                have q_813 := i_eq c_91
                have q_814 := i_nle c_518
                try have hq7 := hct x.toNatClampNeg (cl_lt (by omega) (by omega))
                have k_815 : (1 : Int32).toInt = 1 := by decide
                have t_816 := ti_add (a := k) (b := 1) (by omega) (by omega)
                try generalize Int32.toInt (rw (((1800 * x) + (6 * k)) + 2).toNatClampNeg) = z0 at *
                try generalize Int32.toInt (rw ((1800 * x) + (6 * k)).toNatClampNeg) = z1 at *
                try generalize Int32.toInt (ct x.toNatClampNeg) = z2 at *
                try generalize Int32.toInt r_469.2.1 = z3 at *
                try generalize Int32.toInt r_491.2.1 = z4 at *
                try generalize Int32.toInt (k + 1) = z5 at *
                try generalize Int32.toInt wlz = z6 at *
                try generalize Int32.toInt fi = z7 at *
                try generalize Int32.toInt li = z8 at *
                try generalize Int32.toInt xl = z9 at *
                try generalize Int32.toInt (0 : Int32) = z10 at *
                try generalize Int32.toInt (1 : Int32) = z11 at *
                try generalize Int32.toInt k = z12 at *
                try generalize Int32.toInt x = z13 at *
                omega
              have v_817 : 0 ≤ li.toInt := by
                have hq9 := hlin (by omega) (by omega) k (by omega) (by omega)
                have q_818 := i_le c_90
                have k_819 : (0 : Int32).toInt = 0 := by decide
                have q_820 := i_eq c_91
                have q_821 := i_nle c_518
                try have hq7 := hct x.toNatClampNeg (cl_lt (by omega) (by omega))
                try generalize Int32.toInt (rw (((1800 * x) + (6 * k)) + 2).toNatClampNeg) = z0 at *
                try generalize Int32.toInt (rw ((1800 * x) + (6 * k)).toNatClampNeg) = z1 at *
                try generalize Int32.toInt (ct x.toNatClampNeg) = z2 at *
                try generalize Int32.toInt r_469.2.1 = z3 at *
                try generalize Int32.toInt r_491.2.1 = z4 at *
                try generalize Int32.toInt wlz = z5 at *
                try generalize Int32.toInt fi = z6 at *
                try generalize Int32.toInt li = z7 at *
                try generalize Int32.toInt xl = z8 at *
                try generalize Int32.toInt (0 : Int32) = z9 at *
                try generalize Int32.toInt k = z10 at *
                try generalize Int32.toInt x = z11 at *
                omega
              have v_822 : li.toInt ≤ 199 := by
                have hq9 := hlin (by omega) (by omega) k (by omega) (by omega)
                have q_823 := i_le c_90
                have k_824 : (0 : Int32).toInt = 0 := by decide
                have q_825 := i_eq c_91
                have q_826 := i_nle c_518
                try have hq7 := hct x.toNatClampNeg (cl_lt (by omega) (by omega))
                try generalize Int32.toInt (rw (((1800 * x) + (6 * k)) + 2).toNatClampNeg) = z0 at *
                try generalize Int32.toInt (rw ((1800 * x) + (6 * k)).toNatClampNeg) = z1 at *
                try generalize Int32.toInt (ct x.toNatClampNeg) = z2 at *
                try generalize Int32.toInt r_469.2.1 = z3 at *
                try generalize Int32.toInt r_491.2.1 = z4 at *
                try generalize Int32.toInt wlz = z5 at *
                try generalize Int32.toInt fi = z6 at *
                try generalize Int32.toInt li = z7 at *
                try generalize Int32.toInt xl = z8 at *
                try generalize Int32.toInt (0 : Int32) = z9 at *
                try generalize Int32.toInt k = z10 at *
                try generalize Int32.toInt x = z11 at *
                omega
              have v_827 : 0 ≤ r_491.2.1.toInt := by
                have hq9 := hlin (by omega) (by omega) k (by omega) (by omega)
                have q_828 := i_le c_90
                have k_829 : (0 : Int32).toInt = 0 := by decide
                have q_830 := i_eq c_91
                have q_831 := i_nle c_518
                try have hq7 := hct x.toNatClampNeg (cl_lt (by omega) (by omega))
                try generalize Int32.toInt (rw (((1800 * x) + (6 * k)) + 2).toNatClampNeg) = z0 at *
                try generalize Int32.toInt (rw ((1800 * x) + (6 * k)).toNatClampNeg) = z1 at *
                try generalize Int32.toInt (ct x.toNatClampNeg) = z2 at *
                try generalize Int32.toInt r_469.2.1 = z3 at *
                try generalize Int32.toInt r_491.2.1 = z4 at *
                try generalize Int32.toInt wlz = z5 at *
                try generalize Int32.toInt fi = z6 at *
                try generalize Int32.toInt li = z7 at *
                try generalize Int32.toInt xl = z8 at *
                try generalize Int32.toInt (0 : Int32) = z9 at *
                try generalize Int32.toInt k = z10 at *
                try generalize Int32.toInt x = z11 at *
                omega
              have v_832 : r_491.2.1.toInt ≤ 6000 := by
                have hq9 := hlin (by omega) (by omega) k (by omega) (by omega)
                have q_833 := i_le c_90
                have k_834 : (0 : Int32).toInt = 0 := by decide
                have q_835 := i_eq c_91
                have q_836 := i_nle c_518
                try have hq7 := hct x.toNatClampNeg (cl_lt (by omega) (by omega))
                try generalize Int32.toInt (rw (((1800 * x) + (6 * k)) + 2).toNatClampNeg) = z0 at *
                try generalize Int32.toInt (rw ((1800 * x) + (6 * k)).toNatClampNeg) = z1 at *
                try generalize Int32.toInt (ct x.toNatClampNeg) = z2 at *
                try generalize Int32.toInt r_469.2.1 = z3 at *
                try generalize Int32.toInt r_491.2.1 = z4 at *
                try generalize Int32.toInt wlz = z5 at *
                try generalize Int32.toInt fi = z6 at *
                try generalize Int32.toInt li = z7 at *
                try generalize Int32.toInt xl = z8 at *
                try generalize Int32.toInt (0 : Int32) = z9 at *
                try generalize Int32.toInt k = z10 at *
                try generalize Int32.toInt x = z11 at *
                omega
              have v_837 : ((k + 1)).toInt ≤ (ct x.toNatClampNeg).toInt := by
                have hq9 := hlin (by omega) (by omega) k (by omega) (by omega)
                have q_838 := i_le c_90
                have k_839 : (0 : Int32).toInt = 0 := by decide
                have q_840 := i_eq c_91
                have q_841 := i_nle c_518
                try have hq7 := hct x.toNatClampNeg (cl_lt (by omega) (by omega))
                have k_842 : (1 : Int32).toInt = 1 := by decide
                have t_843 := ti_add (a := k) (b := 1) (by omega) (by omega)
                try generalize Int32.toInt (rw (((1800 * x) + (6 * k)) + 2).toNatClampNeg) = z0 at *
                try generalize Int32.toInt (rw ((1800 * x) + (6 * k)).toNatClampNeg) = z1 at *
                try generalize Int32.toInt (ct x.toNatClampNeg) = z2 at *
                try generalize Int32.toInt r_469.2.1 = z3 at *
                try generalize Int32.toInt r_491.2.1 = z4 at *
                try generalize Int32.toInt (k + 1) = z5 at *
                try generalize Int32.toInt wlz = z6 at *
                try generalize Int32.toInt fi = z7 at *
                try generalize Int32.toInt li = z8 at *
                try generalize Int32.toInt xl = z9 at *
                try generalize Int32.toInt (0 : Int32) = z10 at *
                try generalize Int32.toInt (1 : Int32) = z11 at *
                try generalize Int32.toInt k = z12 at *
                try generalize Int32.toInt x = z13 at *
                omega
              have v_844 : 3 * ((ct x.toNatClampNeg).toInt - ((k + 1)).toInt) + (200 - li.toInt) + 1 < ((n : Nat) : Int) := by
                have hq9 := hlin (by omega) (by omega) k (by omega) (by omega)
                have q_845 := i_le c_90
                have k_846 : (0 : Int32).toInt = 0 := by decide
                have q_847 := i_eq c_91
                have q_848 := i_nle c_518
                try have hq7 := hct x.toNatClampNeg (cl_lt (by omega) (by omega))
                have k_849 : (1 : Int32).toInt = 1 := by decide
                have t_850 := ti_add (a := k) (b := 1) (by omega) (by omega)
                try generalize Int32.toInt (rw (((1800 * x) + (6 * k)) + 2).toNatClampNeg) = z0 at *
                try generalize Int32.toInt (rw ((1800 * x) + (6 * k)).toNatClampNeg) = z1 at *
                try generalize Int32.toInt (ct x.toNatClampNeg) = z2 at *
                try generalize Int32.toInt r_469.2.1 = z3 at *
                try generalize Int32.toInt r_491.2.1 = z4 at *
                try generalize Int32.toInt (k + 1) = z5 at *
                try generalize Int32.toInt wlz = z6 at *
                try generalize Int32.toInt fi = z7 at *
                try generalize Int32.toInt li = z8 at *
                try generalize Int32.toInt xl = z9 at *
                try generalize Int32.toInt (0 : Int32) = z10 at *
                try generalize Int32.toInt (1 : Int32) = z11 at *
                try generalize Int32.toInt k = z12 at *
                try generalize Int32.toInt x = z13 at *
                omega
              exact ih_48 (li) ((rw (((1800 * x) + (6 * k)) + 1).toNatClampNeg)) (so) (sl) (sc) (nm) (0) ((k + 1)) (r_491.1) (r_491.2.1) (r_491.2.2) _ _ ls hR v_808 v_809 v_810 v_817 v_822 v_827 v_832 v_837 v_844 hP hD hS (lv_sub hl [3, 4, 5, 1, 6, 7, 8, 9, 2, 0] rfl)
        · rw [if_neg c_90] at hR
          refine lv_aload_n hx hb dX9_write_83 rfl (lv_at hl 0 rfl) ?_
          refine lv_bipush (v := 59) hx hb dX9_write_84 (by decide) ?_
          have p_851 : 0 ≤ wlz.toInt := by
            first | exact hz0 | assumption
          have p_852 : wlz.toInt ≤ 6000 := by
            first | exact hz1 | assumption
          have hPc := hP.sub (ws' := [(h0, .inr (9, [.int 0, .ref a0, .ref a1, .ref a2, .int dc, .ref a3, .int tl, .ref a4, .int xl, .int fo, .int fa, .ref a5, .int mn, .ref a6, .int ftz, .ref a7, .int wlz])), (a7, .inl (cB, 6000, .inl wz))]) [0, 4] rfl
          have hDc := hD.sub (ws' := [(h0, .inr (9, [.int 0, .ref a0, .ref a1, .ref a2, .int dc, .ref a3, .int tl, .ref a4, .int xl, .int fo, .int fa, .ref a5, .int mn, .ref a6, .int ftz, .ref a7, .int wlz])), (a7, .inl (cB, 6000, .inl wz))]) [0, 4] (by decide) rfl
          have hFc := va_free (wc := [(h0, .inr (9, [.int 0, .ref a0, .ref a1, .ref a2, .int dc, .ref a3, .int tl, .ref a4, .int xl, .int fo, .int fa, .ref a5, .int mn, .ref a6, .int ftz, .ref a7, .int wlz])), (a7, .inl (cB, 6000, .inl wz))]) hD hS hA [0, 4] rfl
          refine va_callv (va_runV (As := [.int 59]) (rest := []) ⟨hx, hb, hml, hown, hts⟩ (c_X9_add l dC dI cB cC cI cJ H.size h0 a0 a1 a2 a3 a4 a5 a6 a7 0 dc tl xl fo fa mn ftz wlz wz 59 p_851 p_852) (cwV 1 hts gX9_write_X9_add rfl rfl rfl (by decide +kernel) ⟨(Nat.le_of_ble_eq_true rfl), (Nat.le_of_ble_eq_true rfl)⟩) ⟨cP_blind, va_recv hG.1 hPc (ci := 9) (q0 := 0) rfl rfl, cP_pre hPc hG hDc⟩ rfl rfl hl.1 rfl (lv_room (Nat.le_of_ble_eq_true rfl)) dX9_write_86 ⟨Nat.le_of_ble_eq_true rfl, Nat.le_of_ble_eq_true rfl⟩) hS (fun q _ h => hFc q h) hFc (fun u t H1 locs ht hvm hw hB hz1 hk1 hS => ?_)
          obtain ⟨hP1, hD1⟩ := hB
          rw [ht] at hP1
          generalize hr_853 : fX9_add 0 dc tl xl fo fa mn ftz wlz wz 59 = r_853 at hP1 hD1 hw
          have er_853_0 := hw
          rw [bnd_eq hr_853] at hR
          obtain ⟨hP, hD⟩ := va_join (wr := [(a0, .inl (cI, 3600, .inl rw)), (a1, .inl (cI, 2, .inl ct)), (a4, .inl (cB, 6000, .inl tx))]) (w1 := [(h0, .inr (9, [.int 0, .ref a0, .ref a1, .ref a2, .int dc, .ref a3, .int tl, .ref a4, .int xl, .int fo, .int fa, .ref a5, .int mn, .ref a6, .int r_853.1, .ref a7, .int r_853.2.1])), (a7, .inl (cB, 6000, .inl r_853.2.2))]) hP hD [0, 4] [1, 2, 3] rfl rfl (by decide) (by decide) hk1 hFc hP1 hD1
          generalize H1 = H at hP hS ⊢
          have hP := hP.sub (ws' := [(h0, .inr (9, [.int 0, .ref a0, .ref a1, .ref a2, .int dc, .ref a3, .int tl, .ref a4, .int xl, .int fo, .int fa, .ref a5, .int mn, .ref a6, .int r_853.1, .ref a7, .int r_853.2.1])), (a0, .inl (cI, 3600, .inl rw)), (a1, .inl (cI, 2, .inl ct)), (a4, .inl (cB, 6000, .inl tx)), (a7, .inl (cB, 6000, .inl r_853.2.2))]) [3, 0, 1, 2, 4] rfl
          have hD := hD.sub (ws' := [(h0, .inr (9, [.int 0, .ref a0, .ref a1, .ref a2, .int dc, .ref a3, .int tl, .ref a4, .int xl, .int fo, .int fa, .ref a5, .int mn, .ref a6, .int r_853.1, .ref a7, .int r_853.2.1])), (a0, .inl (cI, 3600, .inl rw)), (a1, .inl (cI, 2, .inl ct)), (a4, .inl (cB, 6000, .inl tx)), (a7, .inl (cB, 6000, .inl r_853.2.2))]) [3, 0, 1, 2, 4] (by decide) rfl
          refine lv_iinc (v := (li + 1)) (lv' := [(2, .int (li + 1)), (0, .ref h0), (1, .int x), (3, .int co), (4, .int so), (5, .int sl), (6, .int sc), (7, .int nm), (8, .int fi), (9, .int k), (10, .int ((1800 * x) + (6 * k)))]) hx hb dX9_write_89 hl (k := 2) rfl rfl (by decide) rfl (fun ls hl => ?_)
          refine lv_iconst (v := 0) hx hb dX9_write_92 (by decide) ?_
          refine lv_istore_n (lv' := [(3, .int 0), (2, .int (li + 1)), (0, .ref h0), (1, .int x), (4, .int so), (5, .int sl), (6, .int sc), (7, .int nm), (8, .int fi), (9, .int k), (10, .int ((1800 * x) + (6 * k)))]) hx hb dX9_write_93 rfl hl (by decide) rfl (fun ls hl => ?_)
          refine lv_iconst (v := 1) hx hb dX9_write_94 (by decide) ?_
          refine lv_istore (lv' := [(8, .int 1), (3, .int 0), (2, .int (li + 1)), (0, .ref h0), (1, .int x), (4, .int so), (5, .int sl), (6, .int sc), (7, .int nm), (9, .int k), (10, .int ((1800 * x) + (6 * k)))]) hx hb dX9_write_95 hl (by decide) rfl (fun ls hl => ?_)
          refine lv_goto (tgt := 72) hx hb dX9_write_97 (by decide) ?_
          have v_855 : 0 ≤ x.toInt := by
            first | exact hx0 | assumption
          have v_856 : x.toInt ≤ 1 := by
            first | exact hx1 | assumption
          have v_857 : 0 ≤ k.toInt := by
            have hq9 := hlin (by omega) (by omega) k (by omega) (by omega)
            have q_858 := i_nle c_90
            try have hq7 := hct x.toNatClampNeg (cl_lt (by omega) (by omega))
            try generalize Int32.toInt (rw ((1800 * x) + (6 * k)).toNatClampNeg) = z0 at *
            try generalize Int32.toInt (ct x.toNatClampNeg) = z1 at *
            try generalize Int32.toInt r_853.2.1 = z2 at *
            try generalize Int32.toInt wlz = z3 at *
            try generalize Int32.toInt li = z4 at *
            try generalize Int32.toInt xl = z5 at *
            try generalize Int32.toInt k = z6 at *
            try generalize Int32.toInt x = z7 at *
            omega
          have v_859 : 0 ≤ ((li + 1)).toInt := by
            have hq9 := hlin (by omega) (by omega) k (by omega) (by omega)
            have q_860 := i_nle c_90
            try have hq7 := hct x.toNatClampNeg (cl_lt (by omega) (by omega))
            have k_861 : (1 : Int32).toInt = 1 := by decide
            have t_862 := ti_add (a := li) (b := 1) (by omega) (by omega)
            try generalize Int32.toInt (rw ((1800 * x) + (6 * k)).toNatClampNeg) = z0 at *
            try generalize Int32.toInt (ct x.toNatClampNeg) = z1 at *
            try generalize Int32.toInt r_853.2.1 = z2 at *
            try generalize Int32.toInt (li + 1) = z3 at *
            try generalize Int32.toInt wlz = z4 at *
            try generalize Int32.toInt li = z5 at *
            try generalize Int32.toInt xl = z6 at *
            try generalize Int32.toInt (1 : Int32) = z7 at *
            try generalize Int32.toInt k = z8 at *
            try generalize Int32.toInt x = z9 at *
            omega
          have v_863 : ((li + 1)).toInt ≤ 199 := by
            have hq9 := hlin (by omega) (by omega) k (by omega) (by omega)
            have q_864 := i_nle c_90
            try have hq7 := hct x.toNatClampNeg (cl_lt (by omega) (by omega))
            have k_865 : (1 : Int32).toInt = 1 := by decide
            have t_866 := ti_add (a := li) (b := 1) (by omega) (by omega)
            try generalize Int32.toInt (rw ((1800 * x) + (6 * k)).toNatClampNeg) = z0 at *
            try generalize Int32.toInt (ct x.toNatClampNeg) = z1 at *
            try generalize Int32.toInt r_853.2.1 = z2 at *
            try generalize Int32.toInt (li + 1) = z3 at *
            try generalize Int32.toInt wlz = z4 at *
            try generalize Int32.toInt li = z5 at *
            try generalize Int32.toInt xl = z6 at *
            try generalize Int32.toInt (1 : Int32) = z7 at *
            try generalize Int32.toInt k = z8 at *
            try generalize Int32.toInt x = z9 at *
            omega
          have v_867 : 0 ≤ r_853.2.1.toInt := by
            have hq9 := hlin (by omega) (by omega) k (by omega) (by omega)
            have q_868 := i_nle c_90
            try have hq7 := hct x.toNatClampNeg (cl_lt (by omega) (by omega))
            try generalize Int32.toInt (rw ((1800 * x) + (6 * k)).toNatClampNeg) = z0 at *
            try generalize Int32.toInt (ct x.toNatClampNeg) = z1 at *
            try generalize Int32.toInt r_853.2.1 = z2 at *
            try generalize Int32.toInt wlz = z3 at *
            try generalize Int32.toInt li = z4 at *
            try generalize Int32.toInt xl = z5 at *
            try generalize Int32.toInt k = z6 at *
            try generalize Int32.toInt x = z7 at *
            omega
          have v_869 : r_853.2.1.toInt ≤ 6000 := by
            have hq9 := hlin (by omega) (by omega) k (by omega) (by omega)
            have q_870 := i_nle c_90
            try have hq7 := hct x.toNatClampNeg (cl_lt (by omega) (by omega))
            try generalize Int32.toInt (rw ((1800 * x) + (6 * k)).toNatClampNeg) = z0 at *
            try generalize Int32.toInt (ct x.toNatClampNeg) = z1 at *
            try generalize Int32.toInt r_853.2.1 = z2 at *
            try generalize Int32.toInt wlz = z3 at *
            try generalize Int32.toInt li = z4 at *
            try generalize Int32.toInt xl = z5 at *
            try generalize Int32.toInt k = z6 at *
            try generalize Int32.toInt x = z7 at *
            omega
          have v_871 : k.toInt < (ct x.toNatClampNeg).toInt := by
            have hq9 := hlin (by omega) (by omega) k (by omega) (by omega)
            have q_872 := i_nle c_90
            try have hq7 := hct x.toNatClampNeg (cl_lt (by omega) (by omega))
            try generalize Int32.toInt (rw ((1800 * x) + (6 * k)).toNatClampNeg) = z0 at *
            try generalize Int32.toInt (ct x.toNatClampNeg) = z1 at *
            try generalize Int32.toInt r_853.2.1 = z2 at *
            try generalize Int32.toInt wlz = z3 at *
            try generalize Int32.toInt li = z4 at *
            try generalize Int32.toInt xl = z5 at *
            try generalize Int32.toInt k = z6 at *
            try generalize Int32.toInt x = z7 at *
            omega
          have v_873 : 3 * ((ct x.toNatClampNeg).toInt - k.toInt) + (200 - ((li + 1)).toInt) < ((n : Nat) : Int) := by
            have hq9 := hlin (by omega) (by omega) k (by omega) (by omega)
            have q_874 := i_nle c_90
            try have hq7 := hct x.toNatClampNeg (cl_lt (by omega) (by omega))
            have k_875 : (1 : Int32).toInt = 1 := by decide
            have t_876 := ti_add (a := li) (b := 1) (by omega) (by omega)
            try generalize Int32.toInt (rw ((1800 * x) + (6 * k)).toNatClampNeg) = z0 at *
            try generalize Int32.toInt (ct x.toNatClampNeg) = z1 at *
            try generalize Int32.toInt r_853.2.1 = z2 at *
            try generalize Int32.toInt (li + 1) = z3 at *
            try generalize Int32.toInt wlz = z4 at *
            try generalize Int32.toInt li = z5 at *
            try generalize Int32.toInt xl = z6 at *
            try generalize Int32.toInt (1 : Int32) = z7 at *
            try generalize Int32.toInt k = z8 at *
            try generalize Int32.toInt x = z9 at *
            omega
          exact ih_72 ((li + 1)) (0) (so) (sl) (sc) (nm) (1) (k) (r_853.1) (r_853.2.1) (r_853.2.2) _ _ ls hR v_855 v_856 v_857 v_859 v_863 v_867 v_869 v_871 v_873 hP hD hS (lv_sub hl [3, 4, 2, 1, 5, 6, 7, 8, 0, 9, 10] rfl)
  have loop_48 := fun n => (loops_A n).1
  have loop_72 := fun n => (loops_A n).2
  refine lv_aload_n hx hb dX9_write_0 rfl (lv_at hl 0 rfl) ?_
  refine lv_iconst (v := 0) hx hb dX9_write_1 (by decide) ?_
  refine va_put (D := (dC, dI)) (ci := 9) (v := .int 0) (ty := .int) (C := RX9) (T := TX9) (N := 17) hx hb hts inc_X9_write_9 tyX9 tyX9_ok nmX9 hown hG.1 hP hD hS 0 rfl rfl 0 (by decide) (hts (.fieldLink RX9 7 "MappingDeskModel" "thrownCode" "I") (by decide +kernel)) (fun _ h9 => h9) rfl (by decide +kernel) rfl rfl (Nat.le_of_ble_eq_true rfl) dX9_write_2 (fun H locs hP hD hS => ?_)
  have hP : va_P (dC, dI) vwCl [(h0, .inr (9, [.int 0, .ref a0, .ref a1, .ref a2, .int dc, .ref a3, .int tl, .ref a4, .int xl, .int fo, .int fa, .ref a5, .int mn, .ref a6, .int ft, .ref a7, .int wl])), (a0, .inl (cI, 3600, .inl rw)), (a1, .inl (cI, 2, .inl ct)), (a4, .inl (cB, 6000, .inl tx)), (a7, .inl (cB, 6000, .inl wr))] H := hP
  have hD : va_D A [(h0, .inr (9, [.int 0, .ref a0, .ref a1, .ref a2, .int dc, .ref a3, .int tl, .ref a4, .int xl, .int fo, .int fa, .ref a5, .int mn, .ref a6, .int ft, .ref a7, .int wl])), (a0, .inl (cI, 3600, .inl rw)), (a1, .inl (cI, 2, .inl ct)), (a4, .inl (cB, 6000, .inl tx)), (a7, .inl (cB, 6000, .inl wr))] := hD
  refine lv_iload_n hx hb dX9_write_5 rfl (lv_at hl 1 rfl) ?_
  refine lv_if_lt (tgt := 14) hx hb dX9_write_6 (by decide) (fun c_877 => ?_) (fun c_877 => ?_)
  · rw [if_pos c_877] at hR
    refine lv_iconst (v := (-1)) hx hb dX9_write_14 (by decide) ?_
    have e_878 : 0 ≤ (xl : Int32).toInt ∧ (xl : Int32).toInt ≤ 6000 := by
      have k_879 : (0 : Int32).toInt = 0 := by decide
      have q_880 := i_lt c_877
      try have hq7 := hct x.toNatClampNeg (cl_lt (by omega) (by omega))
      try generalize Int32.toInt (ct x.toNatClampNeg) = z0 at *
      try generalize Int32.toInt xl = z1 at *
      try generalize Int32.toInt (0 : Int32) = z2 at *
      try generalize Int32.toInt k = z3 at *
      try generalize Int32.toInt x = z4 at *
      omega
    subst hR
    exact W.iret (v := (-1)) hx hb hr (fun t ht hW => ⟨⟨(-1), (), rfl, ⟨rfl, e_878⟩, by rw [ht]; exact hP, hD⟩, hS.F ht⟩) hS.2.2 dX9_write_15
  · rw [if_neg c_877] at hR
    refine lv_iload_n hx hb dX9_write_9 rfl (lv_at hl 1 rfl) ?_
    refine lv_iconst (v := 1) hx hb dX9_write_10 (by decide) ?_
    refine lv_icmp_le (tgt := 16) hx hb dX9_write_11 (by decide) (fun c_881 => ?_) (fun c_881 => ?_)
    · rw [if_pos c_881] at hR
      refine lv_aload_n hx hb dX9_write_16 rfl (lv_at hl 0 rfl) ?_
      refine lv_iconst (v := 1) hx hb dX9_write_17 (by decide) ?_
      refine va_put (D := (dC, dI)) (ci := 9) (v := .int 1) (ty := .boolean) (C := RX9) (T := TX9) (N := 17) hx hb hts inc_X9_write_9 tyX9 tyX9_ok nmX9 hown hG.1 hP hD hS 0 rfl rfl 14 (by decide) (hts (.fieldLink RX9 55 "MappingDeskModel" "fits" "Z") (by decide +kernel)) (fun _ h9 => h9) rfl (by decide +kernel) rfl rfl (Nat.le_of_ble_eq_true rfl) dX9_write_18 (fun H locs hP hD hS => ?_)
      have hP : va_P (dC, dI) vwCl [(h0, .inr (9, [.int 0, .ref a0, .ref a1, .ref a2, .int dc, .ref a3, .int tl, .ref a4, .int xl, .int fo, .int fa, .ref a5, .int mn, .ref a6, .int 1, .ref a7, .int wl])), (a0, .inl (cI, 3600, .inl rw)), (a1, .inl (cI, 2, .inl ct)), (a4, .inl (cB, 6000, .inl tx)), (a7, .inl (cB, 6000, .inl wr))] H := hP
      have hD : va_D A [(h0, .inr (9, [.int 0, .ref a0, .ref a1, .ref a2, .int dc, .ref a3, .int tl, .ref a4, .int xl, .int fo, .int fa, .ref a5, .int mn, .ref a6, .int 1, .ref a7, .int wl])), (a0, .inl (cI, 3600, .inl rw)), (a1, .inl (cI, 2, .inl ct)), (a4, .inl (cB, 6000, .inl tx)), (a7, .inl (cB, 6000, .inl wr))] := hD
      refine lv_aload_n hx hb dX9_write_21 rfl (lv_at hl 0 rfl) ?_
      refine lv_iconst (v := 0) hx hb dX9_write_22 (by decide) ?_
      refine va_put (D := (dC, dI)) (ci := 9) (v := .int 0) (ty := .int) (C := RX9) (T := TX9) (N := 17) hx hb hts inc_X9_write_9 tyX9 tyX9_ok nmX9 hown hG.1 hP hD hS 0 rfl rfl 16 (by decide) (hts (.fieldLink RX9 62 "MappingDeskModel" "writtenLen" "I") (by decide +kernel)) (fun _ h9 => h9) rfl (by decide +kernel) rfl rfl (Nat.le_of_ble_eq_true rfl) dX9_write_23 (fun H locs hP hD hS => ?_)
      have hP : va_P (dC, dI) vwCl [(h0, .inr (9, [.int 0, .ref a0, .ref a1, .ref a2, .int dc, .ref a3, .int tl, .ref a4, .int xl, .int fo, .int fa, .ref a5, .int mn, .ref a6, .int 1, .ref a7, .int 0])), (a0, .inl (cI, 3600, .inl rw)), (a1, .inl (cI, 2, .inl ct)), (a4, .inl (cB, 6000, .inl tx)), (a7, .inl (cB, 6000, .inl wr))] H := hP
      have hD : va_D A [(h0, .inr (9, [.int 0, .ref a0, .ref a1, .ref a2, .int dc, .ref a3, .int tl, .ref a4, .int xl, .int fo, .int fa, .ref a5, .int mn, .ref a6, .int 1, .ref a7, .int 0])), (a0, .inl (cI, 3600, .inl rw)), (a1, .inl (cI, 2, .inl ct)), (a4, .inl (cB, 6000, .inl tx)), (a7, .inl (cB, 6000, .inl wr))] := hD
      refine lv_iconst (v := 0) hx hb dX9_write_26 (by decide) ?_
      refine lv_istore_n (lv' := [(2, .int 0), (0, .ref h0), (1, .int x)]) hx hb dX9_write_27 rfl hl (by decide) rfl (fun ls hl => ?_)
      refine lv_iconst (v := 0) hx hb dX9_write_28 (by decide) ?_
      refine lv_istore_n (lv' := [(3, .int 0), (2, .int 0), (0, .ref h0), (1, .int x)]) hx hb dX9_write_29 rfl hl (by decide) rfl (fun ls hl => ?_)
      refine lv_iconst (v := 0) hx hb dX9_write_30 (by decide) ?_
      refine lv_istore (lv' := [(4, .int 0), (3, .int 0), (2, .int 0), (0, .ref h0), (1, .int x)]) hx hb dX9_write_31 hl (by decide) rfl (fun ls hl => ?_)
      refine lv_iconst (v := 0) hx hb dX9_write_33 (by decide) ?_
      refine lv_istore (lv' := [(5, .int 0), (4, .int 0), (3, .int 0), (2, .int 0), (0, .ref h0), (1, .int x)]) hx hb dX9_write_34 hl (by decide) rfl (fun ls hl => ?_)
      refine lv_iconst (v := 0) hx hb dX9_write_36 (by decide) ?_
      refine lv_istore (lv' := [(6, .int 0), (5, .int 0), (4, .int 0), (3, .int 0), (2, .int 0), (0, .ref h0), (1, .int x)]) hx hb dX9_write_37 hl (by decide) rfl (fun ls hl => ?_)
      refine lv_iconst (v := 0) hx hb dX9_write_39 (by decide) ?_
      refine lv_istore (lv' := [(7, .int 0), (6, .int 0), (5, .int 0), (4, .int 0), (3, .int 0), (2, .int 0), (0, .ref h0), (1, .int x)]) hx hb dX9_write_40 hl (by decide) rfl (fun ls hl => ?_)
      refine lv_iconst (v := 1) hx hb dX9_write_42 (by decide) ?_
      refine lv_istore (lv' := [(8, .int 1), (7, .int 0), (6, .int 0), (5, .int 0), (4, .int 0), (3, .int 0), (2, .int 0), (0, .ref h0), (1, .int x)]) hx hb dX9_write_43 hl (by decide) rfl (fun ls hl => ?_)
      refine lv_iconst (v := 0) hx hb dX9_write_45 (by decide) ?_
      refine lv_istore (lv' := [(9, .int 0), (8, .int 1), (7, .int 0), (6, .int 0), (5, .int 0), (4, .int 0), (3, .int 0), (2, .int 0), (0, .ref h0), (1, .int x)]) hx hb dX9_write_46 hl (by decide) rfl (fun ls hl => ?_)
      have v_886 : 0 ≤ x.toInt := by
        have k_887 : (0 : Int32).toInt = 0 := by decide
        have q_888 := i_nlt c_877
        have k_889 : (1 : Int32).toInt = 1 := by decide
        have q_890 := i_le c_881
        try have hq7 := hct x.toNatClampNeg (cl_lt (by omega) (by omega))
        try generalize Int32.toInt (ct x.toNatClampNeg) = z0 at *
        try generalize Int32.toInt xl = z1 at *
        try generalize Int32.toInt (0 : Int32) = z2 at *
        try generalize Int32.toInt (1 : Int32) = z3 at *
        try generalize Int32.toInt k = z4 at *
        try generalize Int32.toInt x = z5 at *
        omega
      have v_891 : x.toInt ≤ 1 := by
        have k_892 : (0 : Int32).toInt = 0 := by decide
        have q_893 := i_nlt c_877
        have k_894 : (1 : Int32).toInt = 1 := by decide
        have q_895 := i_le c_881
        try have hq7 := hct x.toNatClampNeg (cl_lt (by omega) (by omega))
        try generalize Int32.toInt (ct x.toNatClampNeg) = z0 at *
        try generalize Int32.toInt xl = z1 at *
        try generalize Int32.toInt (0 : Int32) = z2 at *
        try generalize Int32.toInt (1 : Int32) = z3 at *
        try generalize Int32.toInt k = z4 at *
        try generalize Int32.toInt x = z5 at *
        omega
      have v_896 : 0 ≤ (0 : Int32).toInt := by
        have k_897 : (0 : Int32).toInt = 0 := by decide
        have q_898 := i_nlt c_877
        have k_899 : (1 : Int32).toInt = 1 := by decide
        have q_900 := i_le c_881
        try have hq7 := hct x.toNatClampNeg (cl_lt (by omega) (by omega))
        try generalize Int32.toInt (ct x.toNatClampNeg) = z0 at *
        try generalize Int32.toInt xl = z1 at *
        try generalize Int32.toInt (0 : Int32) = z2 at *
        try generalize Int32.toInt (1 : Int32) = z3 at *
        try generalize Int32.toInt k = z4 at *
        try generalize Int32.toInt x = z5 at *
        omega
      have v_901 : 0 ≤ (0 : Int32).toInt := by
        have k_902 : (0 : Int32).toInt = 0 := by decide
        have q_903 := i_nlt c_877
        have k_904 : (1 : Int32).toInt = 1 := by decide
        have q_905 := i_le c_881
        try have hq7 := hct x.toNatClampNeg (cl_lt (by omega) (by omega))
        try generalize Int32.toInt (ct x.toNatClampNeg) = z0 at *
        try generalize Int32.toInt xl = z1 at *
        try generalize Int32.toInt (0 : Int32) = z2 at *
        try generalize Int32.toInt (1 : Int32) = z3 at *
        try generalize Int32.toInt k = z4 at *
        try generalize Int32.toInt x = z5 at *
        omega
      have v_906 : (0 : Int32).toInt ≤ 199 := by
        have k_907 : (0 : Int32).toInt = 0 := by decide
        have q_908 := i_nlt c_877
        have k_909 : (1 : Int32).toInt = 1 := by decide
        have q_910 := i_le c_881
        try have hq7 := hct x.toNatClampNeg (cl_lt (by omega) (by omega))
        try generalize Int32.toInt (ct x.toNatClampNeg) = z0 at *
        try generalize Int32.toInt xl = z1 at *
        try generalize Int32.toInt (0 : Int32) = z2 at *
        try generalize Int32.toInt (1 : Int32) = z3 at *
        try generalize Int32.toInt k = z4 at *
        try generalize Int32.toInt x = z5 at *
        omega
      have v_911 : 0 ≤ (0 : Int32).toInt := by
        have k_912 : (0 : Int32).toInt = 0 := by decide
        have q_913 := i_nlt c_877
        have k_914 : (1 : Int32).toInt = 1 := by decide
        have q_915 := i_le c_881
        try have hq7 := hct x.toNatClampNeg (cl_lt (by omega) (by omega))
        try generalize Int32.toInt (ct x.toNatClampNeg) = z0 at *
        try generalize Int32.toInt xl = z1 at *
        try generalize Int32.toInt (0 : Int32) = z2 at *
        try generalize Int32.toInt (1 : Int32) = z3 at *
        try generalize Int32.toInt k = z4 at *
        try generalize Int32.toInt x = z5 at *
        omega
      have v_916 : (0 : Int32).toInt ≤ 6000 := by
        have k_917 : (0 : Int32).toInt = 0 := by decide
        have q_918 := i_nlt c_877
        have k_919 : (1 : Int32).toInt = 1 := by decide
        have q_920 := i_le c_881
        try have hq7 := hct x.toNatClampNeg (cl_lt (by omega) (by omega))
        try generalize Int32.toInt (ct x.toNatClampNeg) = z0 at *
        try generalize Int32.toInt xl = z1 at *
        try generalize Int32.toInt (0 : Int32) = z2 at *
        try generalize Int32.toInt (1 : Int32) = z3 at *
        try generalize Int32.toInt k = z4 at *
        try generalize Int32.toInt x = z5 at *
        omega
      have v_921 : (0 : Int32).toInt ≤ (ct x.toNatClampNeg).toInt := by
        have k_922 : (0 : Int32).toInt = 0 := by decide
        have q_923 := i_nlt c_877
        have k_924 : (1 : Int32).toInt = 1 := by decide
        have q_925 := i_le c_881
        try have hq7 := hct x.toNatClampNeg (cl_lt (by omega) (by omega))
        try generalize Int32.toInt (ct x.toNatClampNeg) = z0 at *
        try generalize Int32.toInt xl = z1 at *
        try generalize Int32.toInt (0 : Int32) = z2 at *
        try generalize Int32.toInt (1 : Int32) = z3 at *
        try generalize Int32.toInt k = z4 at *
        try generalize Int32.toInt x = z5 at *
        omega
      have v_926 : 3 * ((ct x.toNatClampNeg).toInt - (0 : Int32).toInt) + (200 - (0 : Int32).toInt) + 1 < ((1110 : Nat) : Int) := by
        have k_927 : (0 : Int32).toInt = 0 := by decide
        have q_928 := i_nlt c_877
        have k_929 : (1 : Int32).toInt = 1 := by decide
        have q_930 := i_le c_881
        try have hq7 := hct x.toNatClampNeg (cl_lt (by omega) (by omega))
        try generalize Int32.toInt (ct x.toNatClampNeg) = z0 at *
        try generalize Int32.toInt xl = z1 at *
        try generalize Int32.toInt (0 : Int32) = z2 at *
        try generalize Int32.toInt (1 : Int32) = z3 at *
        try generalize Int32.toInt k = z4 at *
        try generalize Int32.toInt x = z5 at *
        omega
      exact loop_48 1110 (0) (0) (0) (0) (0) (0) (1) (0) (1) (0) (wr) _ _ ls hR v_886 v_891 v_896 v_901 v_906 v_911 v_916 v_921 v_926 hP hD hS (lv_sub hl [8, 9, 7, 6, 5, 4, 3, 2, 1, 0] rfl)
    · rw [if_neg c_881] at hR
      refine lv_iconst (v := (-1)) hx hb dX9_write_14 (by decide) ?_
      have e_931 : 0 ≤ (xl : Int32).toInt ∧ (xl : Int32).toInt ≤ 6000 := by
        have k_932 : (0 : Int32).toInt = 0 := by decide
        have q_933 := i_nlt c_877
        have k_934 : (1 : Int32).toInt = 1 := by decide
        have q_935 := i_nle c_881
        try have hq7 := hct x.toNatClampNeg (cl_lt (by omega) (by omega))
        try generalize Int32.toInt (ct x.toNatClampNeg) = z0 at *
        try generalize Int32.toInt xl = z1 at *
        try generalize Int32.toInt (0 : Int32) = z2 at *
        try generalize Int32.toInt (1 : Int32) = z3 at *
        try generalize Int32.toInt k = z4 at *
        try generalize Int32.toInt x = z5 at *
        omega
      subst hR
      exact W.iret (v := (-1)) hx hb hr (fun t ht hW => ⟨⟨(-1), (), rfl, ⟨rfl, e_931⟩, by rw [ht]; exact hP, hD⟩, hS.F ht⟩) hS.2.2 dX9_write_15
