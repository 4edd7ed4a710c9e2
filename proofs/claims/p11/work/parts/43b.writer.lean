def fX7_writeTable_21 (wl : Int32) (a0 a1 a2 a3 a4 : Int32) (g0 g1 g2 g3 g4 g5 : Int32) (ch : Nat → Int32) (ln ov : Int32) (cn : Int32) (t0 t1 t2 t3 t4 t5 : Nat → Int32) : Nat → Int32 → Int32 → Int32 → Int32 → Int32 → Int32 → Int32 → Int32 → Int32 → Int32 → Int32 → Int32 → Int32 → Int32 → Int32 → (Nat → Int32) → Int32 × Int32 × Int32 × Int32 × Int32 × Int32 × Int32 × Int32 × Int32 × Int32 × Int32 × Int32 × Int32 × Int32 × Int32 × (Nat → Int32)
  | 0, _, _, _, _, _, _, _, _, _, _, _, _, _, _, _, _ => (0, 0, 0, 0, 0, 0, 0, 0, 0, 0, 0, 0, 0, 0, 0, (fun _ => 0))
  | n + 1, k, wz, az0, az1, az2, az3, az4, sz0, sz1, sz2, sz3, sz4, sz5, lz, oz, cz =>
    if cn ≤ k then
      if oz = 0 then
        (1, wz, az0, az1, az2, az3, az4, sz0, sz1, sz2, sz3, sz4, sz5, lz, oz, cz)
      else
        (0, wz, az0, az1, az2, az3, az4, sz0, sz1, sz2, sz3, sz4, sz5, lz, oz, cz)
    else
      bnd (fX4_copyTo cn t0 t1 t2 t3 t4 t5 sz0 sz1 sz2 sz3 sz4 sz5 k) fun r_14 =>
      if k ≤ 0 then
        bnd (fX7_goToLine wz az0 az1 az2 az3 az4 cz lz oz r_14.1) fun r_23 =>
        bnd (fX7_writeSegment r_23.1 r_23.2.1 az1 az2 az3 az4 r_14.1 r_14.2.1 r_14.2.2.1 r_14.2.2.2.1 r_14.2.2.2.2.1 r_14.2.2.2.2.2 r_23.2.2.2.2 r_23.2.2.1 r_23.2.2.2.1) fun r_32 =>
        bnd (fX0_pass r_23.2.1 az1 az2 az3 az4 r_14.1 r_14.2.1 r_14.2.2.1 r_14.2.2.2.1 r_14.2.2.2.2.1 r_14.2.2.2.2.2) fun r_33 =>
        fX7_writeTable_21 wl a0 a1 a2 a3 a4 g0 g1 g2 g3 g4 g5 ch ln ov cn t0 t1 t2 t3 t4 t5 n (k + 1) r_23.1 r_33.1 r_33.2.1 r_33.2.2.1 r_33.2.2.2.1 r_33.2.2.2.2 r_14.1 r_14.2.1 r_14.2.2.1 r_14.2.2.2.1 r_14.2.2.2.2.1 r_14.2.2.2.2.2 r_32.1 r_32.2.1 r_32.2.2
      else
        if r_14.1 = wz then
          bnd (fX6_append cz lz oz 44) fun r_131 =>
          bnd (fX7_writeSegment wz az0 az1 az2 az3 az4 r_14.1 r_14.2.1 r_14.2.2.1 r_14.2.2.2.1 r_14.2.2.2.2.1 r_14.2.2.2.2.2 r_131.2.2 r_131.1 r_131.2.1) fun r_142 =>
          bnd (fX0_pass az0 az1 az2 az3 az4 r_14.1 r_14.2.1 r_14.2.2.1 r_14.2.2.2.1 r_14.2.2.2.2.1 r_14.2.2.2.2.2) fun r_143 =>
          fX7_writeTable_21 wl a0 a1 a2 a3 a4 g0 g1 g2 g3 g4 g5 ch ln ov cn t0 t1 t2 t3 t4 t5 n (k + 1) wz r_143.1 r_143.2.1 r_143.2.2.1 r_143.2.2.2.1 r_143.2.2.2.2 r_14.1 r_14.2.1 r_14.2.2.1 r_14.2.2.2.1 r_14.2.2.2.2.1 r_14.2.2.2.2.2 r_142.1 r_142.2.1 r_142.2.2
        else
          bnd (fX7_goToLine wz az0 az1 az2 az3 az4 cz lz oz r_14.1) fun r_76 =>
          bnd (fX7_writeSegment r_76.1 r_76.2.1 az1 az2 az3 az4 r_14.1 r_14.2.1 r_14.2.2.1 r_14.2.2.2.1 r_14.2.2.2.2.1 r_14.2.2.2.2.2 r_76.2.2.2.2 r_76.2.2.1 r_76.2.2.2.1) fun r_87 =>
          bnd (fX0_pass r_76.2.1 az1 az2 az3 az4 r_14.1 r_14.2.1 r_14.2.2.1 r_14.2.2.2.1 r_14.2.2.2.2.1 r_14.2.2.2.2.2) fun r_88 =>
          fX7_writeTable_21 wl a0 a1 a2 a3 a4 g0 g1 g2 g3 g4 g5 ch ln ov cn t0 t1 t2 t3 t4 t5 n (k + 1) r_76.1 r_88.1 r_88.2.1 r_88.2.2.1 r_88.2.2.2.1 r_88.2.2.2.2 r_14.1 r_14.2.1 r_14.2.2.1 r_14.2.2.2.1 r_14.2.2.2.2.1 r_14.2.2.2.2.2 r_87.1 r_87.2.1 r_87.2.2
def fX7_writeTable (wl : Int32) (a0 a1 a2 a3 a4 : Int32) (g0 g1 g2 g3 g4 g5 : Int32) (ch : Nat → Int32) (ln ov : Int32) (cn : Int32) (t0 t1 t2 t3 t4 t5 : Nat → Int32) : Int32 × Int32 × Int32 × Int32 × Int32 × Int32 × Int32 × Int32 × Int32 × Int32 × Int32 × Int32 × Int32 × Int32 × Int32 × (Nat → Int32) :=
  bnd (fX6_makeEmpty ch ln ov) fun r_184 =>
  bnd (fX0_startText a0 a1 a2 a3 a4) fun r_185 =>
  fX7_writeTable_21 wl a0 a1 a2 a3 a4 g0 g1 g2 g3 g4 g5 ch ln ov cn t0 t1 t2 t3 t4 t5 301 0 0 r_185.1 r_185.2.1 r_185.2.2.1 r_185.2.2.2.1 r_185.2.2.2.2 g0 g1 g2 g3 g4 g5 r_184.1 r_184.2 ch
theorem inc_X7_writeTable_4 : ∀ w ∈ u_ws RX4 TX4 7, w ∈ wsX7_writeTable := by decide +kernel
theorem inc_X7_writeTable_7 : ∀ w ∈ u_ws RX7 TX7 4, w ∈ wsX7_writeTable := by decide +kernel
theorem inc_X7_writeTable_6 : ∀ w ∈ u_ws RX6 TX6 3, w ∈ wsX7_writeTable := by decide +kernel
theorem inc_X7_writeTable_3 : ∀ w ∈ u_ws RX3 TX3 6, w ∈ wsX7_writeTable := by decide +kernel
set_option maxHeartbeats 4000000 in
set_option maxRecDepth 100000 in
theorem c_X7_writeTable (l : Launch) (dC : Nat → ClassId) (dI : Nat → Nat → Nat) (cB cC cI cJ : ClassId) (ak av sz : Nat) (h0 w0 w1 w2 b0 h1 q0 q1 q2 q3 q4 q5 : Nat) (wl : Int32) (a0 a1 a2 a3 a4 : Int32) (g0 g1 g2 g3 g4 g5 : Int32) (ch : Nat → Int32) (ln ov : Int32) (cn : Int32) (t0 t1 t2 t3 t4 t5 : Nat → Int32) (hc0 : 0 ≤ cn.toInt) (hc1 : cn.toInt ≤ 300) (hlin : ∀ k : Int32, 0 ≤ k.toInt → k.toInt < cn.toInt → 0 ≤ (t0 k.toNatClampNeg).toInt ∧ (t0 k.toNatClampNeg).toInt ≤ 199) : Met l yX7_writeTable wsX7_writeTable ({ frames := 6, cells := 0, slots := 0, locals := 129 } : Room) (cPs dC dI cB cC cI cJ ak av [.ref h0, .ref h1] sz [(h0, .inr (7, [.ref w0, .ref w1, .ref w2, .int wl])), (w0, .inr (0, [.int a0, .int a1, .int a2, .int a3, .int a4])), (w1, .inr (3, [.int g0, .int g1, .int g2, .int g3, .int g4, .int g5])), (w2, .inr (6, [.ref b0, .int ln, .int ov])), (b0, .inl (cC, 6000, .inl ch)), (h1, .inr (4, [.ref q0, .ref q1, .ref q2, .ref q3, .ref q4, .ref q5, .int cn])), (q0, .inl (cI, 300, .inl t0)), (q1, .inl (cI, 300, .inl t1)), (q2, .inl (cI, 300, .inl t2)), (q3, .inl (cI, 300, .inl t3)), (q4, .inl (cI, 300, .inl t4)), (q5, .inl (cI, 300, .inl t5))]) (va_Qi (fun r _ => r = (fX7_writeTable wl a0 a1 a2 a3 a4 g0 g1 g2 g3 g4 g5 ch ln ov cn t0 t1 t2 t3 t4 t5).1 ∧ (0 ≤ (fX7_writeTable wl a0 a1 a2 a3 a4 g0 g1 g2 g3 g4 g5 ch ln ov cn t0 t1 t2 t3 t4 t5).2.2.2.2.2.2.2.2.2.2.2.2.2.1.toInt ∧ (fX7_writeTable wl a0 a1 a2 a3 a4 g0 g1 g2 g3 g4 g5 ch ln ov cn t0 t1 t2 t3 t4 t5).2.2.2.2.2.2.2.2.2.2.2.2.2.1.toInt ≤ 6000)) (cE dC dI (va_A [(h0, .inr (7, [.ref w0, .ref w1, .ref w2, .int wl])), (w0, .inr (0, [.int a0, .int a1, .int a2, .int a3, .int a4])), (w1, .inr (3, [.int g0, .int g1, .int g2, .int g3, .int g4, .int g5])), (w2, .inr (6, [.ref b0, .int ln, .int ov])), (b0, .inl (cC, 6000, .inl ch)), (h1, .inr (4, [.ref q0, .ref q1, .ref q2, .ref q3, .ref q4, .ref q5, .int cn])), (q0, .inl (cI, 300, .inl t0)), (q1, .inl (cI, 300, .inl t1)), (q2, .inl (cI, 300, .inl t2)), (q3, .inl (cI, 300, .inl t3)), (q4, .inl (cI, 300, .inl t4)), (q5, .inl (cI, 300, .inl t5))] sz) [(h0, .inr (7, [.ref w0, .ref w1, .ref w2, .int (fX7_writeTable wl a0 a1 a2 a3 a4 g0 g1 g2 g3 g4 g5 ch ln ov cn t0 t1 t2 t3 t4 t5).2.1])), (w0, .inr (0, [.int (fX7_writeTable wl a0 a1 a2 a3 a4 g0 g1 g2 g3 g4 g5 ch ln ov cn t0 t1 t2 t3 t4 t5).2.2.1, .int (fX7_writeTable wl a0 a1 a2 a3 a4 g0 g1 g2 g3 g4 g5 ch ln ov cn t0 t1 t2 t3 t4 t5).2.2.2.1, .int (fX7_writeTable wl a0 a1 a2 a3 a4 g0 g1 g2 g3 g4 g5 ch ln ov cn t0 t1 t2 t3 t4 t5).2.2.2.2.1, .int (fX7_writeTable wl a0 a1 a2 a3 a4 g0 g1 g2 g3 g4 g5 ch ln ov cn t0 t1 t2 t3 t4 t5).2.2.2.2.2.1, .int (fX7_writeTable wl a0 a1 a2 a3 a4 g0 g1 g2 g3 g4 g5 ch ln ov cn t0 t1 t2 t3 t4 t5).2.2.2.2.2.2.1])), (w1, .inr (3, [.int (fX7_writeTable wl a0 a1 a2 a3 a4 g0 g1 g2 g3 g4 g5 ch ln ov cn t0 t1 t2 t3 t4 t5).2.2.2.2.2.2.2.1, .int (fX7_writeTable wl a0 a1 a2 a3 a4 g0 g1 g2 g3 g4 g5 ch ln ov cn t0 t1 t2 t3 t4 t5).2.2.2.2.2.2.2.2.1, .int (fX7_writeTable wl a0 a1 a2 a3 a4 g0 g1 g2 g3 g4 g5 ch ln ov cn t0 t1 t2 t3 t4 t5).2.2.2.2.2.2.2.2.2.1, .int (fX7_writeTable wl a0 a1 a2 a3 a4 g0 g1 g2 g3 g4 g5 ch ln ov cn t0 t1 t2 t3 t4 t5).2.2.2.2.2.2.2.2.2.2.1, .int (fX7_writeTable wl a0 a1 a2 a3 a4 g0 g1 g2 g3 g4 g5 ch ln ov cn t0 t1 t2 t3 t4 t5).2.2.2.2.2.2.2.2.2.2.2.1, .int (fX7_writeTable wl a0 a1 a2 a3 a4 g0 g1 g2 g3 g4 g5 ch ln ov cn t0 t1 t2 t3 t4 t5).2.2.2.2.2.2.2.2.2.2.2.2.1])), (w2, .inr (6, [.ref b0, .int (fX7_writeTable wl a0 a1 a2 a3 a4 g0 g1 g2 g3 g4 g5 ch ln ov cn t0 t1 t2 t3 t4 t5).2.2.2.2.2.2.2.2.2.2.2.2.2.1, .int (fX7_writeTable wl a0 a1 a2 a3 a4 g0 g1 g2 g3 g4 g5 ch ln ov cn t0 t1 t2 t3 t4 t5).2.2.2.2.2.2.2.2.2.2.2.2.2.2.1])), (b0, .inl (cC, 6000, .inl (fX7_writeTable wl a0 a1 a2 a3 a4 g0 g1 g2 g3 g4 g5 ch ln ov cn t0 t1 t2 t3 t4 t5).2.2.2.2.2.2.2.2.2.2.2.2.2.2.2)), (h1, .inr (4, [.ref q0, .ref q1, .ref q2, .ref q3, .ref q4, .ref q5, .int cn])), (q0, .inl (cI, 300, .inl t0)), (q1, .inl (cI, 300, .inl t1)), (q2, .inl (cI, 300, .inl t2)), (q3, .inl (cI, 300, .inl t3)), (q4, .inl (cI, 300, .inl t4)), (q5, .inl (cI, 300, .inl t5))]) (va_A [(h0, .inr (7, [.ref w0, .ref w1, .ref w2, .int wl])), (w0, .inr (0, [.int a0, .int a1, .int a2, .int a3, .int a4])), (w1, .inr (3, [.int g0, .int g1, .int g2, .int g3, .int g4, .int g5])), (w2, .inr (6, [.ref b0, .int ln, .int ov])), (b0, .inl (cC, 6000, .inl ch)), (h1, .inr (4, [.ref q0, .ref q1, .ref q2, .ref q3, .ref q4, .ref q5, .int cn])), (q0, .inl (cI, 300, .inl t0)), (q1, .inl (cI, 300, .inl t1)), (q2, .inl (cI, 300, .inl t2)), (q3, .inl (cI, 300, .inl t3)), (q4, .inl (cI, 300, .inl t4)), (q5, .inl (cI, 300, .inl t5))] sz)) 0 0 (va_A [(h0, .inr (7, [.ref w0, .ref w1, .ref w2, .int wl])), (w0, .inr (0, [.int a0, .int a1, .int a2, .int a3, .int a4])), (w1, .inr (3, [.int g0, .int g1, .int g2, .int g3, .int g4, .int g5])), (w2, .inr (6, [.ref b0, .int ln, .int ov])), (b0, .inl (cC, 6000, .inl ch)), (h1, .inr (4, [.ref q0, .ref q1, .ref q2, .ref q3, .ref q4, .ref q5, .int cn])), (q0, .inl (cI, 300, .inl t0)), (q1, .inl (cI, 300, .inl t1)), (q2, .inl (cI, 300, .inl t2)), (q3, .inl (cI, 300, .inl t3)), (q4, .inl (cI, 300, .inl t4)), (q5, .inl (cI, 300, .inl t5))] sz) := by
  refine Met.ofW (cc := cX7_writeTable) (maxL := 3) (ret := (some .boolean)) (by decide) rfl ?_
  intro p e s m args below meth c s₁ B hml hv
  obtain ⟨rfl, hsz, hP, hG, hD0, hSK, hSR⟩ := hv
  have hx := B.exec
  have hb := B.bytes
  have hr := B.returns
  have hts := atoms_spec (ws := wsX7_writeTable) B.pre
  have hown : s.vm.findClass RX7 = some m.cls := findClass_of_methodNamed B.named
  have hlocks := B.notSynchronized
  subst hsz
  have hD := hD0.self (sz := s.heap.size)
  generalize hAe : va_A [(h0, .inr (7, [.ref w0, .ref w1, .ref w2, .int wl])), (w0, .inr (0, [.int a0, .int a1, .int a2, .int a3, .int a4])), (w1, .inr (3, [.int g0, .int g1, .int g2, .int g3, .int g4, .int g5])), (w2, .inr (6, [.ref b0, .int ln, .int ov])), (b0, .inl (cC, 6000, .inl ch)), (h1, .inr (4, [.ref q0, .ref q1, .ref q2, .ref q3, .ref q4, .ref q5, .int cn])), (q0, .inl (cI, 300, .inl t0)), (q1, .inl (cI, 300, .inl t1)), (q2, .inl (cI, 300, .inl t2)), (q3, .inl (cI, 300, .inl t3)), (q4, .inl (cI, 300, .inl t4)), (q5, .inl (cI, 300, .inl t5))] s.heap.size = A at hD hSK ⊢
  have hA : ∀ q : Nat, s.heap.size ≤ q → A q := fun q h => by rw [← hAe]; exact Or.inr h
  obtain ⟨H, hH⟩ : ∃ H : Heap, H = s.heap := ⟨_, rfl⟩
  have hS : va_S A s.heap H [] := by rw [hH]; exact va_S.rf
  rw [← hH] at hP ⊢
  generalize hR : fX7_writeTable wl a0 a1 a2 a3 a4 g0 g1 g2 g3 g4 g5 ch ln ov cn t0 t1 t2 t3 t4 t5 = R
  unfold fX7_writeTable at hR
  have hl := lv_entry ([.ref h0, .ref h1]) (n := 3) (Nat.le_of_ble_eq_true rfl)
  rw [lg_entry_eq]
  generalize (lg_sl ([.ref h0, .ref h1]) ++ List.replicate (3 - (lg_sl ([.ref h0, .ref h1])).length) Slot.unset).toArray = ls at hl ⊢
  have hl : lv_has ls 3 [(0, .ref h0), (1, .ref h1)] := hl
  have loop_21 : ∀ (n : Nat), ∀ (k : Int32) (wz : Int32) (az0 : Int32) (az1 : Int32) (az2 : Int32) (az3 : Int32) (az4 : Int32) (sz0 : Int32) (sz1 : Int32) (sz2 : Int32) (sz3 : Int32) (sz4 : Int32) (sz5 : Int32) (lz : Int32) (oz : Int32) (cz : Nat → Int32) (H : Heap) (locs : List Loc) (ls : Array Slot), fX7_writeTable_21 wl a0 a1 a2 a3 a4 g0 g1 g2 g3 g4 g5 ch ln ov cn t0 t1 t2 t3 t4 t5 n k wz az0 az1 az2 az3 az4 sz0 sz1 sz2 sz3 sz4 sz5 lz oz cz = R → (0 ≤ k.toInt) → (k.toInt ≤ cn.toInt) → (0 ≤ lz.toInt) → (lz.toInt ≤ 6000) → (0 ≤ wz.toInt) → (cn.toInt - k.toInt < ((n : Nat) : Int)) → va_P (dC, dI) vwCl [(h0, .inr (7, [.ref w0, .ref w1, .ref w2, .int wz])), (w0, .inr (0, [.int az0, .int az1, .int az2, .int az3, .int az4])), (w1, .inr (3, [.int sz0, .int sz1, .int sz2, .int sz3, .int sz4, .int sz5])), (w2, .inr (6, [.ref b0, .int lz, .int oz])), (b0, .inl (cC, 6000, .inl cz)), (h1, .inr (4, [.ref q0, .ref q1, .ref q2, .ref q3, .ref q4, .ref q5, .int cn])), (q0, .inl (cI, 300, .inl t0)), (q1, .inl (cI, 300, .inl t1)), (q2, .inl (cI, 300, .inl t2)), (q3, .inl (cI, 300, .inl t3)), (q4, .inl (cI, 300, .inl t4)), (q5, .inl (cI, 300, .inl t5))] H → va_D A [(h0, .inr (7, [.ref w0, .ref w1, .ref w2, .int wz])), (w0, .inr (0, [.int az0, .int az1, .int az2, .int az3, .int az4])), (w1, .inr (3, [.int sz0, .int sz1, .int sz2, .int sz3, .int sz4, .int sz5])), (w2, .inr (6, [.ref b0, .int lz, .int oz])), (b0, .inl (cC, 6000, .inl cz)), (h1, .inr (4, [.ref q0, .ref q1, .ref q2, .ref q3, .ref q4, .ref q5, .int cn])), (q0, .inl (cI, 300, .inl t0)), (q1, .inl (cI, 300, .inl t1)), (q2, .inl (cI, 300, .inl t2)), (q3, .inl (cI, 300, .inl t3)), (q4, .inl (cI, 300, .inl t4)), (q5, .inl (cI, 300, .inl t5))] → va_S A s.heap H locs → lv_has ls 3 [(0, .ref h0), (1, .ref h1), (2, .int k)] → W p l e (headSpec wsX7_writeTable ({ frames := 6, cells := 0, slots := 0, locals := 129 } : Room)).room s m ([.ref h0, .ref h1] : List Value).toArray below meth c H locs 0 0 (MQ below (va_Qi (fun r _ => r = R.1 ∧ (0 ≤ R.2.2.2.2.2.2.2.2.2.2.2.2.2.1.toInt ∧ R.2.2.2.2.2.2.2.2.2.2.2.2.2.1.toInt ≤ 6000)) (cE dC dI (A) [(h0, .inr (7, [.ref w0, .ref w1, .ref w2, .int R.2.1])), (w0, .inr (0, [.int R.2.2.1, .int R.2.2.2.1, .int R.2.2.2.2.1, .int R.2.2.2.2.2.1, .int R.2.2.2.2.2.2.1])), (w1, .inr (3, [.int R.2.2.2.2.2.2.2.1, .int R.2.2.2.2.2.2.2.2.1, .int R.2.2.2.2.2.2.2.2.2.1, .int R.2.2.2.2.2.2.2.2.2.2.1, .int R.2.2.2.2.2.2.2.2.2.2.2.1, .int R.2.2.2.2.2.2.2.2.2.2.2.2.1])), (w2, .inr (6, [.ref b0, .int R.2.2.2.2.2.2.2.2.2.2.2.2.2.1, .int R.2.2.2.2.2.2.2.2.2.2.2.2.2.2.1])), (b0, .inl (cC, 6000, .inl R.2.2.2.2.2.2.2.2.2.2.2.2.2.2.2)), (h1, .inr (4, [.ref q0, .ref q1, .ref q2, .ref q3, .ref q4, .ref q5, .int cn])), (q0, .inl (cI, 300, .inl t0)), (q1, .inl (cI, 300, .inl t1)), (q2, .inl (cI, 300, .inl t2)), (q3, .inl (cI, 300, .inl t3)), (q4, .inl (cI, 300, .inl t4)), (q5, .inl (cI, 300, .inl t5))]) (A)) ([.ref h0, .ref h1] : List Value).toArray s 0 0 A) (F0 m 21 ls []) := by
    intro n
    induction n with
    | zero => intro k wz az0 az1 az2 az3 az4 sz0 sz1 sz2 sz3 sz4 sz5 lz oz cz H locs ls hR hk0 hk1 hz0 hz1 hw0 hmu; exfalso; omega
    | succ n ih =>
      intro k wz az0 az1 az2 az3 az4 sz0 sz1 sz2 sz3 sz4 sz5 lz oz cz H locs ls hR hk0 hk1 hz0 hz1 hw0 hmu hP hD hS hl
      rw [fX7_writeTable_21] at hR
      refine lv_iload_n hx hb dX7_writeTable_21 rfl (lv_at hl 2 rfl) ?_
      refine lv_aload_n hx hb dX7_writeTable_22 rfl (lv_at hl 1 rfl) ?_
      refine va_getN (D := (dC, dI)) (ci := 4) (v := .int cn) (C := RX4) (T := TX4) (N := 7) hx hb hts inc_X7_writeTable_4 hown hG.1 hP 5 rfl rfl 6 (by decide) (hG.nf (a := RX7) (i := 40) (b := "MappingDesk$Table") (n := "count") (d := "I") (t := "MappingDesk") (by decide +kernel)) (fun _ h9 => h9) rfl dX7_writeTable_23 ?_
      refine lv_icmp_ge (tgt := 100) hx hb dX7_writeTable_26 (by decide) (fun c_1 => ?_) (fun c_1 => ?_)
      · rw [if_pos c_1] at hR
        refine lv_aload_n hx hb dX7_writeTable_100 rfl (lv_at hl 0 rfl) ?_
        refine va_get (D := (dC, dI)) (ci := 7) (v := .ref w2) (C := RX7) (T := TX7) (N := 4) hx hb hts inc_X7_writeTable_7 hown hG.1 hP 0 rfl rfl 2 (by decide) (hts (.fieldLink RX7 26 "MappingDesk$Writer" "made" "LMappingDesk$Text;") (by decide +kernel)) (fun _ h9 => h9) rfl dX7_writeTable_101 ?_
        refine va_getN (D := (dC, dI)) (ci := 6) (v := .int oz) (C := RX6) (T := TX6) (N := 3) hx hb hts inc_X7_writeTable_6 hown hG.1 hP 3 rfl rfl 2 (by decide) (hG.nf (a := RX7) (i := 65) (b := "MappingDesk$Text") (n := "overflowed") (d := "Z") (t := "MappingDesk") (by decide +kernel)) (fun _ h9 => h9) rfl dX7_writeTable_104 ?_
        refine lv_if_ne (tgt := 114) hx hb dX7_writeTable_107 (by decide) (fun c_2 => ?_) (fun c_2 => ?_)
        · rw [if_neg c_2] at hR
          refine lv_iconst (v := 0) hx hb dX7_writeTable_114 (by decide) ?_
          have e_3 : 0 ≤ (lz : Int32).toInt ∧ (lz : Int32).toInt ≤ 6000 := by
            have q_4 := i_le c_1
            have k_5 : (0 : Int32).toInt = 0 := by decide
            have q_6 := i_ne c_2
            try have hq9 := hlin k (by omega) (by omega)
            try generalize Int32.toInt (t0 k.toNatClampNeg) = z0 at *
            try generalize Int32.toInt cn = z1 at *
            try generalize Int32.toInt lz = z2 at *
            try generalize Int32.toInt oz = z3 at *
            try generalize Int32.toInt wz = z4 at *
            try generalize Int32.toInt (0 : Int32) = z5 at *
            try generalize Int32.toInt k = z6 at *
            omega
          subst hR
          exact W.zret (v := 0) hx hb hr rfl (fun t ht hW => ⟨⟨0, (), rfl, ⟨rfl, e_3⟩, by rw [ht]; exact hP, hD⟩, hS.F ht⟩) hS.2.2 dX7_writeTable_115
        · rw [if_pos c_2] at hR
          refine lv_iconst (v := 1) hx hb dX7_writeTable_110 (by decide) ?_
          refine lv_goto (tgt := 115) hx hb dX7_writeTable_111 (by decide) ?_
          have e_7 : 0 ≤ (lz : Int32).toInt ∧ (lz : Int32).toInt ≤ 6000 := by
            have q_8 := i_le c_1
            have k_9 : (0 : Int32).toInt = 0 := by decide
            have q_10 := i_eq c_2
            try have hq9 := hlin k (by omega) (by omega)
            try generalize Int32.toInt (t0 k.toNatClampNeg) = z0 at *
            try generalize Int32.toInt cn = z1 at *
            try generalize Int32.toInt lz = z2 at *
            try generalize Int32.toInt oz = z3 at *
            try generalize Int32.toInt wz = z4 at *
            try generalize Int32.toInt (0 : Int32) = z5 at *
            try generalize Int32.toInt k = z6 at *
            omega
          subst hR
          exact W.zret (v := 1) hx hb hr rfl (fun t ht hW => ⟨⟨1, (), rfl, ⟨rfl, e_7⟩, by rw [ht]; exact hP, hD⟩, hS.F ht⟩) hS.2.2 dX7_writeTable_115
      · rw [if_neg c_1] at hR
        refine lv_aload_n hx hb dX7_writeTable_29 rfl (lv_at hl 1 rfl) ?_
        refine lv_iload_n hx hb dX7_writeTable_30 rfl (lv_at hl 2 rfl) ?_
        refine lv_aload_n hx hb dX7_writeTable_31 rfl (lv_at hl 0 rfl) ?_
        refine va_get (D := (dC, dI)) (ci := 7) (v := .ref w1) (C := RX7) (T := TX7) (N := 4) hx hb hts inc_X7_writeTable_7 hown hG.1 hP 0 rfl rfl 1 (by decide) (hts (.fieldLink RX7 19 "MappingDesk$Writer" "segment" "LMappingDesk$Segment;") (by decide +kernel)) (fun _ h9 => h9) rfl dX7_writeTable_32 ?_
        have p_11 : 0 ≤ k.toInt := by
          first | exact hk0 | assumption
        have p_12 : k.toInt < 300 := by
          have q_13 := i_nle c_1
          try have hq9 := hlin k (by omega) (by omega)
          try generalize Int32.toInt (t0 k.toNatClampNeg) = z0 at *
          try generalize Int32.toInt cn = z1 at *
          try generalize Int32.toInt lz = z2 at *
          try generalize Int32.toInt wz = z3 at *
          try generalize Int32.toInt k = z4 at *
          first | omega | exact ⟨by omega, by omega⟩
        have hPc := hP.sub (ws' := [(h1, .inr (4, [.ref q0, .ref q1, .ref q2, .ref q3, .ref q4, .ref q5, .int cn])), (q0, .inl (cI, 300, .inl t0)), (q1, .inl (cI, 300, .inl t1)), (q2, .inl (cI, 300, .inl t2)), (q3, .inl (cI, 300, .inl t3)), (q4, .inl (cI, 300, .inl t4)), (q5, .inl (cI, 300, .inl t5)), (w1, .inr (3, [.int sz0, .int sz1, .int sz2, .int sz3, .int sz4, .int sz5]))]) [5, 6, 7, 8, 9, 10, 11, 2] rfl
        have hDc := hD.sub (ws' := [(h1, .inr (4, [.ref q0, .ref q1, .ref q2, .ref q3, .ref q4, .ref q5, .int cn])), (q0, .inl (cI, 300, .inl t0)), (q1, .inl (cI, 300, .inl t1)), (q2, .inl (cI, 300, .inl t2)), (q3, .inl (cI, 300, .inl t3)), (q4, .inl (cI, 300, .inl t4)), (q5, .inl (cI, 300, .inl t5)), (w1, .inr (3, [.int sz0, .int sz1, .int sz2, .int sz3, .int sz4, .int sz5]))]) [5, 6, 7, 8, 9, 10, 11, 2] (by decide) rfl
        have hFc := va_free (wc := [(h1, .inr (4, [.ref q0, .ref q1, .ref q2, .ref q3, .ref q4, .ref q5, .int cn])), (q0, .inl (cI, 300, .inl t0)), (q1, .inl (cI, 300, .inl t1)), (q2, .inl (cI, 300, .inl t2)), (q3, .inl (cI, 300, .inl t3)), (q4, .inl (cI, 300, .inl t4)), (q5, .inl (cI, 300, .inl t5)), (w1, .inr (3, [.int sz0, .int sz1, .int sz2, .int sz3, .int sz4, .int sz5]))]) hD hS hA [5, 6, 7, 8, 9, 10, 11, 2] rfl
        refine va_callv (va_runVN (C := RX4) (As := [.int k, .ref w1]) (rest := []) ⟨hx, hb, hml, hown, hts⟩ (c_X4_copyTo l dC dI cB cC cI cJ H.size h1 w1 q0 q1 q2 q3 q4 q5 cn t0 t1 t2 t3 t4 t5 sz0 sz1 sz2 sz3 sz4 sz5 k p_11 p_12) ⟨va_cnB 2 hts gX7_writeTable_X4_copyTo_n45 rfl rfl rfl (hG.nm (A := #[]) (w := .methodLinkNest RX7 45 yX4_copyTo "MappingDesk") (by decide +kernel)) (hts (.initialized RX4) (by decide +kernel)) (by decide +kernel) ⟨(Nat.le_of_ble_eq_true rfl), (Nat.le_of_ble_eq_true rfl)⟩, hts (.instanceMethod yX4_copyTo) (by decide +kernel), hts (.selects RX4 yX4_copyTo yX4_copyTo) (by decide +kernel)⟩ ⟨cP_blind, va_recv hG.1 hPc (ci := 4) (q0 := 0) rfl rfl, cP_pre hPc hG hDc⟩ rfl rfl hl.1 rfl (lv_room (Nat.le_of_ble_eq_true rfl)) dX7_writeTable_35 ⟨Nat.le_of_ble_eq_true rfl, Nat.le_of_ble_eq_true rfl⟩) hS (fun q _ h => hFc q h) hFc (fun u t H1 locs ht hvm hw hB hz1 hk1 hS => ?_)
        obtain ⟨hP1, hD1⟩ := hB
        rw [ht] at hP1
        generalize hr_14 : fX4_copyTo cn t0 t1 t2 t3 t4 t5 sz0 sz1 sz2 sz3 sz4 sz5 k = r_14 at hP1 hD1 hw
        have er_14_0 := hw
        rw [bnd_eq hr_14] at hR
        obtain ⟨hP, hD⟩ := va_join (wr := [(h0, .inr (7, [.ref w0, .ref w1, .ref w2, .int wz])), (w0, .inr (0, [.int az0, .int az1, .int az2, .int az3, .int az4])), (w2, .inr (6, [.ref b0, .int lz, .int oz])), (b0, .inl (cC, 6000, .inl cz))]) (w1 := [(h1, .inr (4, [.ref q0, .ref q1, .ref q2, .ref q3, .ref q4, .ref q5, .int cn])), (q0, .inl (cI, 300, .inl t0)), (q1, .inl (cI, 300, .inl t1)), (q2, .inl (cI, 300, .inl t2)), (q3, .inl (cI, 300, .inl t3)), (q4, .inl (cI, 300, .inl t4)), (q5, .inl (cI, 300, .inl t5)), (w1, .inr (3, [.int r_14.1, .int r_14.2.1, .int r_14.2.2.1, .int r_14.2.2.2.1, .int r_14.2.2.2.2.1, .int r_14.2.2.2.2.2]))]) hP hD [5, 6, 7, 8, 9, 10, 11, 2] [0, 1, 3, 4] rfl rfl (by decide) (by decide) hk1 hFc hP1 hD1
        generalize H1 = H at hP hS ⊢
        have hP := hP.sub (ws' := [(h0, .inr (7, [.ref w0, .ref w1, .ref w2, .int wz])), (w0, .inr (0, [.int az0, .int az1, .int az2, .int az3, .int az4])), (w1, .inr (3, [.int r_14.1, .int r_14.2.1, .int r_14.2.2.1, .int r_14.2.2.2.1, .int r_14.2.2.2.2.1, .int r_14.2.2.2.2.2])), (w2, .inr (6, [.ref b0, .int lz, .int oz])), (b0, .inl (cC, 6000, .inl cz)), (h1, .inr (4, [.ref q0, .ref q1, .ref q2, .ref q3, .ref q4, .ref q5, .int cn])), (q0, .inl (cI, 300, .inl t0)), (q1, .inl (cI, 300, .inl t1)), (q2, .inl (cI, 300, .inl t2)), (q3, .inl (cI, 300, .inl t3)), (q4, .inl (cI, 300, .inl t4)), (q5, .inl (cI, 300, .inl t5))]) [0, 1, 11, 2, 3, 4, 5, 6, 7, 8, 9, 10] rfl
        have hD := hD.sub (ws' := [(h0, .inr (7, [.ref w0, .ref w1, .ref w2, .int wz])), (w0, .inr (0, [.int az0, .int az1, .int az2, .int az3, .int az4])), (w1, .inr (3, [.int r_14.1, .int r_14.2.1, .int r_14.2.2.1, .int r_14.2.2.2.1, .int r_14.2.2.2.2.1, .int r_14.2.2.2.2.2])), (w2, .inr (6, [.ref b0, .int lz, .int oz])), (b0, .inl (cC, 6000, .inl cz)), (h1, .inr (4, [.ref q0, .ref q1, .ref q2, .ref q3, .ref q4, .ref q5, .int cn])), (q0, .inl (cI, 300, .inl t0)), (q1, .inl (cI, 300, .inl t1)), (q2, .inl (cI, 300, .inl t2)), (q3, .inl (cI, 300, .inl t3)), (q4, .inl (cI, 300, .inl t4)), (q5, .inl (cI, 300, .inl t5))]) [0, 1, 11, 2, 3, 4, 5, 6, 7, 8, 9, 10] (by decide) rfl
        refine lv_iload_n hx hb dX7_writeTable_38 rfl (lv_at hl 2 rfl) ?_
        refine lv_if_le (tgt := 68) hx hb dX7_writeTable_39 (by decide) (fun c_15 => ?_) (fun c_15 => ?_)
        · rw [if_pos c_15] at hR
          refine lv_aload_n hx hb dX7_writeTable_68 rfl (lv_at hl 0 rfl) ?_
          refine lv_aload_n hx hb dX7_writeTable_69 rfl (lv_at hl 0 rfl) ?_
          refine va_get (D := (dC, dI)) (ci := 7) (v := .ref w1) (C := RX7) (T := TX7) (N := 4) hx hb hts inc_X7_writeTable_7 hown hG.1 hP 0 rfl rfl 1 (by decide) (hts (.fieldLink RX7 19 "MappingDesk$Writer" "segment" "LMappingDesk$Segment;") (by decide +kernel)) (fun _ h9 => h9) rfl dX7_writeTable_70 ?_
          refine va_getN (D := (dC, dI)) (ci := 3) (v := .int r_14.1) (C := RX3) (T := TX3) (N := 6) hx hb hts inc_X7_writeTable_3 hown hG.1 hP 2 rfl rfl 0 (by decide) (hG.nf (a := RX7) (i := 49) (b := "MappingDesk$Segment") (n := "line") (d := "I") (t := "MappingDesk") (by decide +kernel)) (fun _ h9 => h9) rfl dX7_writeTable_73 ?_
          have p_16 : 0 ≤ lz.toInt := by
            first | exact hz0 | assumption
          have p_17 : lz.toInt ≤ 6000 := by
            first | exact hz1 | assumption
          have p_18 : 0 ≤ wz.toInt := by
            first | exact hw0 | assumption
          have p_19 : r_14.1.toInt ≤ 199 := by
            have q_20 := i_nle c_1
            have k_21 : (0 : Int32).toInt = 0 := by decide
            have q_22 := i_le c_15
            try have hq9 := hlin k (by omega) (by omega)
            try generalize Int32.toInt (t0 k.toNatClampNeg) = z0 at *
            try generalize Int32.toInt r_14.1 = z1 at *
            try generalize Int32.toInt cn = z2 at *
            try generalize Int32.toInt lz = z3 at *
            try generalize Int32.toInt wz = z4 at *
            try generalize Int32.toInt (0 : Int32) = z5 at *
            try generalize Int32.toInt k = z6 at *
            first | omega | exact ⟨by omega, by omega⟩
          have hPc := hP.sub (ws' := [(h0, .inr (7, [.ref w0, .ref w1, .ref w2, .int wz])), (w0, .inr (0, [.int az0, .int az1, .int az2, .int az3, .int az4])), (w2, .inr (6, [.ref b0, .int lz, .int oz])), (b0, .inl (cC, 6000, .inl cz))]) [0, 1, 3, 4] rfl
          have hDc := hD.sub (ws' := [(h0, .inr (7, [.ref w0, .ref w1, .ref w2, .int wz])), (w0, .inr (0, [.int az0, .int az1, .int az2, .int az3, .int az4])), (w2, .inr (6, [.ref b0, .int lz, .int oz])), (b0, .inl (cC, 6000, .inl cz))]) [0, 1, 3, 4] (by decide) rfl
          have hFc := va_free (wc := [(h0, .inr (7, [.ref w0, .ref w1, .ref w2, .int wz])), (w0, .inr (0, [.int az0, .int az1, .int az2, .int az3, .int az4])), (w2, .inr (6, [.ref b0, .int lz, .int oz])), (b0, .inl (cC, 6000, .inl cz))]) hD hS hA [0, 1, 3, 4] rfl
          refine va_callv (va_runV (As := [.int r_14.1]) (rest := []) ⟨hx, hb, hml, hown, hts⟩ (c_X7_goToLine l dC dI cB cC cI cJ H.size h0 w0 w1 w2 b0 wz az0 az1 az2 az3 az4 cz lz oz r_14.1 p_16 p_17 p_18 p_19) (cwV 1 hts gX7_writeTable_X7_goToLine rfl rfl rfl (by decide +kernel) ⟨(Nat.le_of_ble_eq_true rfl), (Nat.le_of_ble_eq_true rfl)⟩) ⟨cP_blind, va_recv hG.1 hPc (ci := 7) (q0 := 0) rfl rfl, cP_pre hPc hG hDc⟩ rfl rfl hl.1 rfl (lv_room (Nat.le_of_ble_eq_true rfl)) dX7_writeTable_76 ⟨Nat.le_of_ble_eq_true rfl, Nat.le_of_ble_eq_true rfl⟩) hS (fun q _ h => hFc q h) hFc (fun u t H1 locs ht hvm hw hB hz1 hk1 hS => ?_)
          obtain ⟨hP1, hD1⟩ := hB
          rw [ht] at hP1
          generalize hr_23 : fX7_goToLine wz az0 az1 az2 az3 az4 cz lz oz r_14.1 = r_23 at hP1 hD1 hw
          obtain ⟨er_23_0, er_23_1⟩ := hw
          rw [bnd_eq hr_23] at hR
          obtain ⟨hP, hD⟩ := va_join (wr := [(w1, .inr (3, [.int r_14.1, .int r_14.2.1, .int r_14.2.2.1, .int r_14.2.2.2.1, .int r_14.2.2.2.2.1, .int r_14.2.2.2.2.2])), (h1, .inr (4, [.ref q0, .ref q1, .ref q2, .ref q3, .ref q4, .ref q5, .int cn])), (q0, .inl (cI, 300, .inl t0)), (q1, .inl (cI, 300, .inl t1)), (q2, .inl (cI, 300, .inl t2)), (q3, .inl (cI, 300, .inl t3)), (q4, .inl (cI, 300, .inl t4)), (q5, .inl (cI, 300, .inl t5))]) (w1 := [(h0, .inr (7, [.ref w0, .ref w1, .ref w2, .int r_23.1])), (w0, .inr (0, [.int r_23.2.1, .int az1, .int az2, .int az3, .int az4])), (w2, .inr (6, [.ref b0, .int r_23.2.2.1, .int r_23.2.2.2.1])), (b0, .inl (cC, 6000, .inl r_23.2.2.2.2))]) hP hD [0, 1, 3, 4] [2, 5, 6, 7, 8, 9, 10, 11] rfl rfl (by decide) (by decide) hk1 hFc hP1 hD1
          generalize H1 = H at hP hS ⊢
          have hP := hP.sub (ws' := [(h0, .inr (7, [.ref w0, .ref w1, .ref w2, .int r_23.1])), (w0, .inr (0, [.int r_23.2.1, .int az1, .int az2, .int az3, .int az4])), (w1, .inr (3, [.int r_14.1, .int r_14.2.1, .int r_14.2.2.1, .int r_14.2.2.2.1, .int r_14.2.2.2.2.1, .int r_14.2.2.2.2.2])), (w2, .inr (6, [.ref b0, .int r_23.2.2.1, .int r_23.2.2.2.1])), (b0, .inl (cC, 6000, .inl r_23.2.2.2.2)), (h1, .inr (4, [.ref q0, .ref q1, .ref q2, .ref q3, .ref q4, .ref q5, .int cn])), (q0, .inl (cI, 300, .inl t0)), (q1, .inl (cI, 300, .inl t1)), (q2, .inl (cI, 300, .inl t2)), (q3, .inl (cI, 300, .inl t3)), (q4, .inl (cI, 300, .inl t4)), (q5, .inl (cI, 300, .inl t5))]) [8, 9, 0, 10, 11, 1, 2, 3, 4, 5, 6, 7] rfl
          have hD := hD.sub (ws' := [(h0, .inr (7, [.ref w0, .ref w1, .ref w2, .int r_23.1])), (w0, .inr (0, [.int r_23.2.1, .int az1, .int az2, .int az3, .int az4])), (w1, .inr (3, [.int r_14.1, .int r_14.2.1, .int r_14.2.2.1, .int r_14.2.2.2.1, .int r_14.2.2.2.2.1, .int r_14.2.2.2.2.2])), (w2, .inr (6, [.ref b0, .int r_23.2.2.1, .int r_23.2.2.2.1])), (b0, .inl (cC, 6000, .inl r_23.2.2.2.2)), (h1, .inr (4, [.ref q0, .ref q1, .ref q2, .ref q3, .ref q4, .ref q5, .int cn])), (q0, .inl (cI, 300, .inl t0)), (q1, .inl (cI, 300, .inl t1)), (q2, .inl (cI, 300, .inl t2)), (q3, .inl (cI, 300, .inl t3)), (q4, .inl (cI, 300, .inl t4)), (q5, .inl (cI, 300, .inl t5))]) [8, 9, 0, 10, 11, 1, 2, 3, 4, 5, 6, 7] (by decide) rfl
          refine lv_aload_n hx hb dX7_writeTable_79 rfl (lv_at hl 0 rfl) ?_
          have p_24 : 0 ≤ r_23.2.2.1.toInt := by
            have q_25 := i_nle c_1
            have k_26 : (0 : Int32).toInt = 0 := by decide
            have q_27 := i_le c_15
            try have hq9 := hlin k (by omega) (by omega)
            try generalize Int32.toInt (t0 k.toNatClampNeg) = z0 at *
            try generalize Int32.toInt r_23.2.2.1 = z1 at *
            try generalize Int32.toInt r_14.1 = z2 at *
            try generalize Int32.toInt r_23.1 = z3 at *
            try generalize Int32.toInt cn = z4 at *
            try generalize Int32.toInt lz = z5 at *
            try generalize Int32.toInt wz = z6 at *
            try generalize Int32.toInt (0 : Int32) = z7 at *
            try generalize Int32.toInt k = z8 at *
            first | omega | exact ⟨by omega, by omega⟩
          have p_28 : r_23.2.2.1.toInt ≤ 6000 := by
            have q_29 := i_nle c_1
            have k_30 : (0 : Int32).toInt = 0 := by decide
            have q_31 := i_le c_15
            try have hq9 := hlin k (by omega) (by omega)
            try generalize Int32.toInt (t0 k.toNatClampNeg) = z0 at *
            try generalize Int32.toInt r_23.2.2.1 = z1 at *
            try generalize Int32.toInt r_14.1 = z2 at *
            try generalize Int32.toInt r_23.1 = z3 at *
            try generalize Int32.toInt cn = z4 at *
            try generalize Int32.toInt lz = z5 at *
            try generalize Int32.toInt wz = z6 at *
            try generalize Int32.toInt (0 : Int32) = z7 at *
            try generalize Int32.toInt k = z8 at *
            first | omega | exact ⟨by omega, by omega⟩
          have hPc := hP.sub (ws' := [(h0, .inr (7, [.ref w0, .ref w1, .ref w2, .int r_23.1])), (w0, .inr (0, [.int r_23.2.1, .int az1, .int az2, .int az3, .int az4])), (w1, .inr (3, [.int r_14.1, .int r_14.2.1, .int r_14.2.2.1, .int r_14.2.2.2.1, .int r_14.2.2.2.2.1, .int r_14.2.2.2.2.2])), (w2, .inr (6, [.ref b0, .int r_23.2.2.1, .int r_23.2.2.2.1])), (b0, .inl (cC, 6000, .inl r_23.2.2.2.2))]) [0, 1, 2, 3, 4] rfl
          have hDc := hD.sub (ws' := [(h0, .inr (7, [.ref w0, .ref w1, .ref w2, .int r_23.1])), (w0, .inr (0, [.int r_23.2.1, .int az1, .int az2, .int az3, .int az4])), (w1, .inr (3, [.int r_14.1, .int r_14.2.1, .int r_14.2.2.1, .int r_14.2.2.2.1, .int r_14.2.2.2.2.1, .int r_14.2.2.2.2.2])), (w2, .inr (6, [.ref b0, .int r_23.2.2.1, .int r_23.2.2.2.1])), (b0, .inl (cC, 6000, .inl r_23.2.2.2.2))]) [0, 1, 2, 3, 4] (by decide) rfl
          have hFc := va_free (wc := [(h0, .inr (7, [.ref w0, .ref w1, .ref w2, .int r_23.1])), (w0, .inr (0, [.int r_23.2.1, .int az1, .int az2, .int az3, .int az4])), (w1, .inr (3, [.int r_14.1, .int r_14.2.1, .int r_14.2.2.1, .int r_14.2.2.2.1, .int r_14.2.2.2.2.1, .int r_14.2.2.2.2.2])), (w2, .inr (6, [.ref b0, .int r_23.2.2.1, .int r_23.2.2.2.1])), (b0, .inl (cC, 6000, .inl r_23.2.2.2.2))]) hD hS hA [0, 1, 2, 3, 4] rfl
          refine va_callv (va_runV (As := []) (rest := []) ⟨hx, hb, hml, hown, hts⟩ (c_X7_writeSegment l dC dI cB cC cI cJ ak av H.size h0 w0 w1 w2 b0 r_23.1 r_23.2.1 az1 az2 az3 az4 r_14.1 r_14.2.1 r_14.2.2.1 r_14.2.2.2.1 r_14.2.2.2.2.1 r_14.2.2.2.2.2 r_23.2.2.2.2 r_23.2.2.1 r_23.2.2.2.1 p_24 p_28) (cwV 0 hts gX7_writeTable_X7_writeSegment rfl rfl rfl (by decide +kernel) ⟨(Nat.le_of_ble_eq_true rfl), (Nat.le_of_ble_eq_true rfl)⟩) ⟨cPs_blind, va_recv hG.1 hPc (ci := 7) (q0 := 0) rfl rfl, cPs_pre hPc hG hDc hSK hS hFc hSR⟩ rfl rfl hl.1 rfl (lv_room (Nat.le_of_ble_eq_true rfl)) dX7_writeTable_80 ⟨Nat.le_of_ble_eq_true rfl, Nat.le_of_ble_eq_true rfl⟩) hS (fun q _ h => hFc q h) hFc (fun u t H1 locs ht hvm hw hB hz1 hk1 hS => ?_)
          obtain ⟨hP1, hD1⟩ := hB
          rw [ht] at hP1
          generalize hr_32 : fX7_writeSegment r_23.1 r_23.2.1 az1 az2 az3 az4 r_14.1 r_14.2.1 r_14.2.2.1 r_14.2.2.2.1 r_14.2.2.2.2.1 r_14.2.2.2.2.2 r_23.2.2.2.2 r_23.2.2.1 r_23.2.2.2.1 = r_32 at hP1 hD1 hw
          have er_32_0 := hw
          rw [bnd_eq hr_32] at hR
          obtain ⟨hP, hD⟩ := va_join (wr := [(h1, .inr (4, [.ref q0, .ref q1, .ref q2, .ref q3, .ref q4, .ref q5, .int cn])), (q0, .inl (cI, 300, .inl t0)), (q1, .inl (cI, 300, .inl t1)), (q2, .inl (cI, 300, .inl t2)), (q3, .inl (cI, 300, .inl t3)), (q4, .inl (cI, 300, .inl t4)), (q5, .inl (cI, 300, .inl t5))]) (w1 := [(h0, .inr (7, [.ref w0, .ref w1, .ref w2, .int r_23.1])), (w0, .inr (0, [.int r_23.2.1, .int az1, .int az2, .int az3, .int az4])), (w1, .inr (3, [.int r_14.1, .int r_14.2.1, .int r_14.2.2.1, .int r_14.2.2.2.1, .int r_14.2.2.2.2.1, .int r_14.2.2.2.2.2])), (w2, .inr (6, [.ref b0, .int r_32.1, .int r_32.2.1])), (b0, .inl (cC, 6000, .inl r_32.2.2))]) hP hD [0, 1, 2, 3, 4] [5, 6, 7, 8, 9, 10, 11] rfl rfl (by decide) (by decide) hk1 hFc hP1 hD1
          generalize H1 = H at hP hS ⊢
          have hP := hP.sub (ws' := [(h0, .inr (7, [.ref w0, .ref w1, .ref w2, .int r_23.1])), (w0, .inr (0, [.int r_23.2.1, .int az1, .int az2, .int az3, .int az4])), (w1, .inr (3, [.int r_14.1, .int r_14.2.1, .int r_14.2.2.1, .int r_14.2.2.2.1, .int r_14.2.2.2.2.1, .int r_14.2.2.2.2.2])), (w2, .inr (6, [.ref b0, .int r_32.1, .int r_32.2.1])), (b0, .inl (cC, 6000, .inl r_32.2.2)), (h1, .inr (4, [.ref q0, .ref q1, .ref q2, .ref q3, .ref q4, .ref q5, .int cn])), (q0, .inl (cI, 300, .inl t0)), (q1, .inl (cI, 300, .inl t1)), (q2, .inl (cI, 300, .inl t2)), (q3, .inl (cI, 300, .inl t3)), (q4, .inl (cI, 300, .inl t4)), (q5, .inl (cI, 300, .inl t5))]) [7, 8, 9, 10, 11, 0, 1, 2, 3, 4, 5, 6] rfl
          have hD := hD.sub (ws' := [(h0, .inr (7, [.ref w0, .ref w1, .ref w2, .int r_23.1])), (w0, .inr (0, [.int r_23.2.1, .int az1, .int az2, .int az3, .int az4])), (w1, .inr (3, [.int r_14.1, .int r_14.2.1, .int r_14.2.2.1, .int r_14.2.2.2.1, .int r_14.2.2.2.2.1, .int r_14.2.2.2.2.2])), (w2, .inr (6, [.ref b0, .int r_32.1, .int r_32.2.1])), (b0, .inl (cC, 6000, .inl r_32.2.2)), (h1, .inr (4, [.ref q0, .ref q1, .ref q2, .ref q3, .ref q4, .ref q5, .int cn])), (q0, .inl (cI, 300, .inl t0)), (q1, .inl (cI, 300, .inl t1)), (q2, .inl (cI, 300, .inl t2)), (q3, .inl (cI, 300, .inl t3)), (q4, .inl (cI, 300, .inl t4)), (q5, .inl (cI, 300, .inl t5))]) [7, 8, 9, 10, 11, 0, 1, 2, 3, 4, 5, 6] (by decide) rfl
          refine lv_aload_n hx hb dX7_writeTable_83 rfl (lv_at hl 0 rfl) ?_
          refine va_get (D := (dC, dI)) (ci := 7) (v := .ref w0) (C := RX7) (T := TX7) (N := 4) hx hb hts inc_X7_writeTable_7 hown hG.1 hP 0 rfl rfl 0 (by decide) (hts (.fieldLink RX7 10 "MappingDesk$Writer" "ahead" "LMappingDesk$Ahead;") (by decide +kernel)) (fun _ h9 => h9) rfl dX7_writeTable_84 ?_
          refine lv_aload_n hx hb dX7_writeTable_87 rfl (lv_at hl 0 rfl) ?_
          refine va_get (D := (dC, dI)) (ci := 7) (v := .ref w1) (C := RX7) (T := TX7) (N := 4) hx hb hts inc_X7_writeTable_7 hown hG.1 hP 0 rfl rfl 1 (by decide) (hts (.fieldLink RX7 19 "MappingDesk$Writer" "segment" "LMappingDesk$Segment;") (by decide +kernel)) (fun _ h9 => h9) rfl dX7_writeTable_88 ?_
          have hPc := hP.sub (ws' := [(w0, .inr (0, [.int r_23.2.1, .int az1, .int az2, .int az3, .int az4])), (w1, .inr (3, [.int r_14.1, .int r_14.2.1, .int r_14.2.2.1, .int r_14.2.2.2.1, .int r_14.2.2.2.2.1, .int r_14.2.2.2.2.2]))]) [1, 2] rfl
          have hDc := hD.sub (ws' := [(w0, .inr (0, [.int r_23.2.1, .int az1, .int az2, .int az3, .int az4])), (w1, .inr (3, [.int r_14.1, .int r_14.2.1, .int r_14.2.2.1, .int r_14.2.2.2.1, .int r_14.2.2.2.2.1, .int r_14.2.2.2.2.2]))]) [1, 2] (by decide) rfl
          have hFc := va_free (wc := [(w0, .inr (0, [.int r_23.2.1, .int az1, .int az2, .int az3, .int az4])), (w1, .inr (3, [.int r_14.1, .int r_14.2.1, .int r_14.2.2.1, .int r_14.2.2.2.1, .int r_14.2.2.2.2.1, .int r_14.2.2.2.2.2]))]) hD hS hA [1, 2] rfl
          refine va_callv (va_runVN (C := RX0) (As := [.ref w1]) (rest := []) ⟨hx, hb, hml, hown, hts⟩ (c_X0_pass l dC dI cB cC cI cJ H.size w0 w1 r_23.2.1 az1 az2 az3 az4 r_14.1 r_14.2.1 r_14.2.2.1 r_14.2.2.2.1 r_14.2.2.2.2.1 r_14.2.2.2.2.2 ) ⟨va_cnB 1 hts gX7_writeTable_X0_pass_n61 rfl rfl rfl (hG.nm (A := #[]) (w := .methodLinkNest RX7 61 yX0_pass "MappingDesk") (by decide +kernel)) (hts (.initialized RX0) (by decide +kernel)) (by decide +kernel) ⟨(Nat.le_of_ble_eq_true rfl), (Nat.le_of_ble_eq_true rfl)⟩, hts (.instanceMethod yX0_pass) (by decide +kernel), hts (.selects RX0 yX0_pass yX0_pass) (by decide +kernel)⟩ ⟨cP_blind, va_recv hG.1 hPc (ci := 0) (q0 := 0) rfl rfl, cP_pre hPc hG hDc⟩ rfl rfl hl.1 rfl (lv_room (Nat.le_of_ble_eq_true rfl)) dX7_writeTable_91 ⟨Nat.le_of_ble_eq_true rfl, Nat.le_of_ble_eq_true rfl⟩) hS (fun q _ h => hFc q h) hFc (fun u t H1 locs ht hvm hw hB hz1 hk1 hS => ?_)
          obtain ⟨hP1, hD1⟩ := hB
          rw [ht] at hP1
          generalize hr_33 : fX0_pass r_23.2.1 az1 az2 az3 az4 r_14.1 r_14.2.1 r_14.2.2.1 r_14.2.2.2.1 r_14.2.2.2.2.1 r_14.2.2.2.2.2 = r_33 at hP1 hD1
          rw [bnd_eq hr_33] at hR
          obtain ⟨hP, hD⟩ := va_join (wr := [(h0, .inr (7, [.ref w0, .ref w1, .ref w2, .int r_23.1])), (w2, .inr (6, [.ref b0, .int r_32.1, .int r_32.2.1])), (b0, .inl (cC, 6000, .inl r_32.2.2)), (h1, .inr (4, [.ref q0, .ref q1, .ref q2, .ref q3, .ref q4, .ref q5, .int cn])), (q0, .inl (cI, 300, .inl t0)), (q1, .inl (cI, 300, .inl t1)), (q2, .inl (cI, 300, .inl t2)), (q3, .inl (cI, 300, .inl t3)), (q4, .inl (cI, 300, .inl t4)), (q5, .inl (cI, 300, .inl t5))]) (w1 := [(w0, .inr (0, [.int r_33.1, .int r_33.2.1, .int r_33.2.2.1, .int r_33.2.2.2.1, .int r_33.2.2.2.2])), (w1, .inr (3, [.int r_14.1, .int r_14.2.1, .int r_14.2.2.1, .int r_14.2.2.2.1, .int r_14.2.2.2.2.1, .int r_14.2.2.2.2.2]))]) hP hD [1, 2] [0, 3, 4, 5, 6, 7, 8, 9, 10, 11] rfl rfl (by decide) (by decide) hk1 hFc hP1 hD1
          generalize H1 = H at hP hS ⊢
          have hP := hP.sub (ws' := [(h0, .inr (7, [.ref w0, .ref w1, .ref w2, .int r_23.1])), (w0, .inr (0, [.int r_33.1, .int r_33.2.1, .int r_33.2.2.1, .int r_33.2.2.2.1, .int r_33.2.2.2.2])), (w1, .inr (3, [.int r_14.1, .int r_14.2.1, .int r_14.2.2.1, .int r_14.2.2.2.1, .int r_14.2.2.2.2.1, .int r_14.2.2.2.2.2])), (w2, .inr (6, [.ref b0, .int r_32.1, .int r_32.2.1])), (b0, .inl (cC, 6000, .inl r_32.2.2)), (h1, .inr (4, [.ref q0, .ref q1, .ref q2, .ref q3, .ref q4, .ref q5, .int cn])), (q0, .inl (cI, 300, .inl t0)), (q1, .inl (cI, 300, .inl t1)), (q2, .inl (cI, 300, .inl t2)), (q3, .inl (cI, 300, .inl t3)), (q4, .inl (cI, 300, .inl t4)), (q5, .inl (cI, 300, .inl t5))]) [0, 10, 11, 1, 2, 3, 4, 5, 6, 7, 8, 9] rfl
          have hD := hD.sub (ws' := [(h0, .inr (7, [.ref w0, .ref w1, .ref w2, .int r_23.1])), (w0, .inr (0, [.int r_33.1, .int r_33.2.1, .int r_33.2.2.1, .int r_33.2.2.2.1, .int r_33.2.2.2.2])), (w1, .inr (3, [.int r_14.1, .int r_14.2.1, .int r_14.2.2.1, .int r_14.2.2.2.1, .int r_14.2.2.2.2.1, .int r_14.2.2.2.2.2])), (w2, .inr (6, [.ref b0, .int r_32.1, .int r_32.2.1])), (b0, .inl (cC, 6000, .inl r_32.2.2)), (h1, .inr (4, [.ref q0, .ref q1, .ref q2, .ref q3, .ref q4, .ref q5, .int cn])), (q0, .inl (cI, 300, .inl t0)), (q1, .inl (cI, 300, .inl t1)), (q2, .inl (cI, 300, .inl t2)), (q3, .inl (cI, 300, .inl t3)), (q4, .inl (cI, 300, .inl t4)), (q5, .inl (cI, 300, .inl t5))]) [0, 10, 11, 1, 2, 3, 4, 5, 6, 7, 8, 9] (by decide) rfl
          refine lv_iinc (v := (k + 1)) (lv' := [(2, .int (k + 1)), (0, .ref h0), (1, .ref h1)]) hx hb dX7_writeTable_94 hl (k := 2) rfl rfl (by decide) rfl (fun ls hl => ?_)
          refine lv_goto (tgt := 21) hx hb dX7_writeTable_97 (by decide) ?_
          have v_37 : 0 ≤ ((k + 1)).toInt := by
            have q_38 := i_nle c_1
            have k_39 : (0 : Int32).toInt = 0 := by decide
            have q_40 := i_le c_15
            try have hq9 := hlin k (by omega) (by omega)
            have k_41 : (1 : Int32).toInt = 1 := by decide
            have t_42 := ti_add (a := k) (b := 1) (by omega) (by omega)
            try generalize Int32.toInt (t0 k.toNatClampNeg) = z0 at *
            try generalize Int32.toInt r_23.2.2.1 = z1 at *
            try generalize Int32.toInt (k + 1) = z2 at *
            try generalize Int32.toInt r_14.1 = z3 at *
            try generalize Int32.toInt r_23.1 = z4 at *
            try generalize Int32.toInt r_32.1 = z5 at *
            try generalize Int32.toInt cn = z6 at *
            try generalize Int32.toInt lz = z7 at *
            try generalize Int32.toInt wz = z8 at *
            try generalize Int32.toInt (0 : Int32) = z9 at *
            try generalize Int32.toInt (1 : Int32) = z10 at *
            try generalize Int32.toInt k = z11 at *
            omega
          have v_43 : ((k + 1)).toInt ≤ cn.toInt := by
            have q_44 := i_nle c_1
            have k_45 : (0 : Int32).toInt = 0 := by decide
            have q_46 := i_le c_15
            try have hq9 := hlin k (by omega) (by omega)
            have k_47 : (1 : Int32).toInt = 1 := by decide
            have t_48 := ti_add (a := k) (b := 1) (by omega) (by omega)
            try generalize Int32.toInt (t0 k.toNatClampNeg) = z0 at *
            try generalize Int32.toInt r_23.2.2.1 = z1 at *
            try generalize Int32.toInt (k + 1) = z2 at *
            try generalize Int32.toInt r_14.1 = z3 at *
            try generalize Int32.toInt r_23.1 = z4 at *
            try generalize Int32.toInt r_32.1 = z5 at *
            try generalize Int32.toInt cn = z6 at *
            try generalize Int32.toInt lz = z7 at *
            try generalize Int32.toInt wz = z8 at *
            try generalize Int32.toInt (0 : Int32) = z9 at *
            try generalize Int32.toInt (1 : Int32) = z10 at *
            try generalize Int32.toInt k = z11 at *
            omega
          have v_49 : 0 ≤ r_32.1.toInt := by
            have q_50 := i_nle c_1
            have k_51 : (0 : Int32).toInt = 0 := by decide
            have q_52 := i_le c_15
            try have hq9 := hlin k (by omega) (by omega)
            try generalize Int32.toInt (t0 k.toNatClampNeg) = z0 at *
            try generalize Int32.toInt r_23.2.2.1 = z1 at *
            try generalize Int32.toInt r_14.1 = z2 at *
            try generalize Int32.toInt r_23.1 = z3 at *
            try generalize Int32.toInt r_32.1 = z4 at *
            try generalize Int32.toInt cn = z5 at *
            try generalize Int32.toInt lz = z6 at *
            try generalize Int32.toInt wz = z7 at *
            try generalize Int32.toInt (0 : Int32) = z8 at *
            try generalize Int32.toInt k = z9 at *
            omega
          have v_53 : r_32.1.toInt ≤ 6000 := by
            have q_54 := i_nle c_1
            have k_55 : (0 : Int32).toInt = 0 := by decide
            have q_56 := i_le c_15
            try have hq9 := hlin k (by omega) (by omega)
            try generalize Int32.toInt (t0 k.toNatClampNeg) = z0 at *
            try generalize Int32.toInt r_23.2.2.1 = z1 at *
            try generalize Int32.toInt r_14.1 = z2 at *
            try generalize Int32.toInt r_23.1 = z3 at *
            try generalize Int32.toInt r_32.1 = z4 at *
            try generalize Int32.toInt cn = z5 at *
            try generalize Int32.toInt lz = z6 at *
            try generalize Int32.toInt wz = z7 at *
            try generalize Int32.toInt (0 : Int32) = z8 at *
            try generalize Int32.toInt k = z9 at *
            omega
          have v_57 : 0 ≤ r_23.1.toInt := by
            have q_58 := i_nle c_1
            have k_59 : (0 : Int32).toInt = 0 := by decide
            have q_60 := i_le c_15
            try have hq9 := hlin k (by omega) (by omega)
            try generalize Int32.toInt (t0 k.toNatClampNeg) = z0 at *
            try generalize Int32.toInt r_23.2.2.1 = z1 at *
            try generalize Int32.toInt r_14.1 = z2 at *
            try generalize Int32.toInt r_23.1 = z3 at *
            try generalize Int32.toInt r_32.1 = z4 at *
            try generalize Int32.toInt cn = z5 at *
            try generalize Int32.toInt lz = z6 at *
            try generalize Int32.toInt wz = z7 at *
            try generalize Int32.toInt (0 : Int32) = z8 at *
            try generalize Int32.toInt k = z9 at *
            omega
          have v_61 : cn.toInt - ((k + 1)).toInt < ((n : Nat) : Int) := by
            have q_62 := i_nle c_1
            have k_63 : (0 : Int32).toInt = 0 := by decide
            have q_64 := i_le c_15
            try have hq9 := hlin k (by omega) (by omega)
            have k_65 : (1 : Int32).toInt = 1 := by decide
            have t_66 := ti_add (a := k) (b := 1) (by omega) (by omega)
            try generalize Int32.toInt (t0 k.toNatClampNeg) = z0 at *
            try generalize Int32.toInt r_23.2.2.1 = z1 at *
            try generalize Int32.toInt (k + 1) = z2 at *
            try generalize Int32.toInt r_14.1 = z3 at *
            try generalize Int32.toInt r_23.1 = z4 at *
            try generalize Int32.toInt r_32.1 = z5 at *
            try generalize Int32.toInt cn = z6 at *
            try generalize Int32.toInt lz = z7 at *
            try generalize Int32.toInt wz = z8 at *
            try generalize Int32.toInt (0 : Int32) = z9 at *
            try generalize Int32.toInt (1 : Int32) = z10 at *
            try generalize Int32.toInt k = z11 at *
            omega
          exact ih ((k + 1)) (r_23.1) (r_33.1) (r_33.2.1) (r_33.2.2.1) (r_33.2.2.2.1) (r_33.2.2.2.2) (r_14.1) (r_14.2.1) (r_14.2.2.1) (r_14.2.2.2.1) (r_14.2.2.2.2.1) (r_14.2.2.2.2.2) (r_32.1) (r_32.2.1) (r_32.2.2) _ _ ls hR v_37 v_43 v_49 v_53 v_57 v_61 hP hD hS (lv_sub hl [1, 2, 0] rfl)
        · rw [if_neg c_15] at hR
          refine lv_aload_n hx hb dX7_writeTable_42 rfl (lv_at hl 0 rfl) ?_
          refine va_get (D := (dC, dI)) (ci := 7) (v := .ref w1) (C := RX7) (T := TX7) (N := 4) hx hb hts inc_X7_writeTable_7 hown hG.1 hP 0 rfl rfl 1 (by decide) (hts (.fieldLink RX7 19 "MappingDesk$Writer" "segment" "LMappingDesk$Segment;") (by decide +kernel)) (fun _ h9 => h9) rfl dX7_writeTable_43 ?_
          refine va_getN (D := (dC, dI)) (ci := 3) (v := .int r_14.1) (C := RX3) (T := TX3) (N := 6) hx hb hts inc_X7_writeTable_3 hown hG.1 hP 2 rfl rfl 0 (by decide) (hG.nf (a := RX7) (i := 49) (b := "MappingDesk$Segment") (n := "line") (d := "I") (t := "MappingDesk") (by decide +kernel)) (fun _ h9 => h9) rfl dX7_writeTable_46 ?_
          refine lv_aload_n hx hb dX7_writeTable_49 rfl (lv_at hl 0 rfl) ?_
          refine va_get (D := (dC, dI)) (ci := 7) (v := .int wz) (C := RX7) (T := TX7) (N := 4) hx hb hts inc_X7_writeTable_7 hown hG.1 hP 0 rfl rfl 3 (by decide) (hts (.fieldLink RX7 36 "MappingDesk$Writer" "line" "I") (by decide +kernel)) (fun _ h9 => h9) rfl dX7_writeTable_50 ?_
          refine lv_icmp_ne (tgt := 68) hx hb dX7_writeTable_53 (by decide) (fun c_67 => ?_) (fun c_67 => ?_)
          · rw [if_neg c_67] at hR
            refine lv_aload_n hx hb dX7_writeTable_68 rfl (lv_at hl 0 rfl) ?_
            refine lv_aload_n hx hb dX7_writeTable_69 rfl (lv_at hl 0 rfl) ?_
            refine va_get (D := (dC, dI)) (ci := 7) (v := .ref w1) (C := RX7) (T := TX7) (N := 4) hx hb hts inc_X7_writeTable_7 hown hG.1 hP 0 rfl rfl 1 (by decide) (hts (.fieldLink RX7 19 "MappingDesk$Writer" "segment" "LMappingDesk$Segment;") (by decide +kernel)) (fun _ h9 => h9) rfl dX7_writeTable_70 ?_
            refine va_getN (D := (dC, dI)) (ci := 3) (v := .int r_14.1) (C := RX3) (T := TX3) (N := 6) hx hb hts inc_X7_writeTable_3 hown hG.1 hP 2 rfl rfl 0 (by decide) (hG.nf (a := RX7) (i := 49) (b := "MappingDesk$Segment") (n := "line") (d := "I") (t := "MappingDesk") (by decide +kernel)) (fun _ h9 => h9) rfl dX7_writeTable_73 ?_
            have p_68 : 0 ≤ lz.toInt := by
              first | exact hz0 | assumption
            have p_69 : lz.toInt ≤ 6000 := by
              first | exact hz1 | assumption
            have p_70 : 0 ≤ wz.toInt := by
              first | exact hw0 | assumption
            have p_71 : r_14.1.toInt ≤ 199 := by
              have q_72 := i_nle c_1
              have k_73 : (0 : Int32).toInt = 0 := by decide
              have q_74 := i_nle c_15
              have q_75 := i_ne c_67
              try have hq9 := hlin k (by omega) (by omega)
              try generalize Int32.toInt (t0 k.toNatClampNeg) = z0 at *
              try generalize Int32.toInt r_14.1 = z1 at *
              try generalize Int32.toInt cn = z2 at *
              try generalize Int32.toInt lz = z3 at *
              try generalize Int32.toInt wz = z4 at *
              try generalize Int32.toInt (0 : Int32) = z5 at *
              try generalize Int32.toInt k = z6 at *
              first | omega | exact ⟨by omega, by omega⟩
            have hPc := hP.sub (ws' := [(h0, .inr (7, [.ref w0, .ref w1, .ref w2, .int wz])), (w0, .inr (0, [.int az0, .int az1, .int az2, .int az3, .int az4])), (w2, .inr (6, [.ref b0, .int lz, .int oz])), (b0, .inl (cC, 6000, .inl cz))]) [0, 1, 3, 4] rfl
            have hDc := hD.sub (ws' := [(h0, .inr (7, [.ref w0, .ref w1, .ref w2, .int wz])), (w0, .inr (0, [.int az0, .int az1, .int az2, .int az3, .int az4])), (w2, .inr (6, [.ref b0, .int lz, .int oz])), (b0, .inl (cC, 6000, .inl cz))]) [0, 1, 3, 4] (by decide) rfl
            have hFc := va_free (wc := [(h0, .inr (7, [.ref w0, .ref w1, .ref w2, .int wz])), (w0, .inr (0, [.int az0, .int az1, .int az2, .int az3, .int az4])), (w2, .inr (6, [.ref b0, .int lz, .int oz])), (b0, .inl (cC, 6000, .inl cz))]) hD hS hA [0, 1, 3, 4] rfl
            refine va_callv (va_runV (As := [.int r_14.1]) (rest := []) ⟨hx, hb, hml, hown, hts⟩ (c_X7_goToLine l dC dI cB cC cI cJ H.size h0 w0 w1 w2 b0 wz az0 az1 az2 az3 az4 cz lz oz r_14.1 p_68 p_69 p_70 p_71) (cwV 1 hts gX7_writeTable_X7_goToLine rfl rfl rfl (by decide +kernel) ⟨(Nat.le_of_ble_eq_true rfl), (Nat.le_of_ble_eq_true rfl)⟩) ⟨cP_blind, va_recv hG.1 hPc (ci := 7) (q0 := 0) rfl rfl, cP_pre hPc hG hDc⟩ rfl rfl hl.1 rfl (lv_room (Nat.le_of_ble_eq_true rfl)) dX7_writeTable_76 ⟨Nat.le_of_ble_eq_true rfl, Nat.le_of_ble_eq_true rfl⟩) hS (fun q _ h => hFc q h) hFc (fun u t H1 locs ht hvm hw hB hz1 hk1 hS => ?_)
            obtain ⟨hP1, hD1⟩ := hB
            rw [ht] at hP1
            generalize hr_76 : fX7_goToLine wz az0 az1 az2 az3 az4 cz lz oz r_14.1 = r_76 at hP1 hD1 hw
            obtain ⟨er_76_0, er_76_1⟩ := hw
            rw [bnd_eq hr_76] at hR
            obtain ⟨hP, hD⟩ := va_join (wr := [(w1, .inr (3, [.int r_14.1, .int r_14.2.1, .int r_14.2.2.1, .int r_14.2.2.2.1, .int r_14.2.2.2.2.1, .int r_14.2.2.2.2.2])), (h1, .inr (4, [.ref q0, .ref q1, .ref q2, .ref q3, .ref q4, .ref q5, .int cn])), (q0, .inl (cI, 300, .inl t0)), (q1, .inl (cI, 300, .inl t1)), (q2, .inl (cI, 300, .inl t2)), (q3, .inl (cI, 300, .inl t3)), (q4, .inl (cI, 300, .inl t4)), (q5, .inl (cI, 300, .inl t5))]) (w1 := [(h0, .inr (7, [.ref w0, .ref w1, .ref w2, .int r_76.1])), (w0, .inr (0, [.int r_76.2.1, .int az1, .int az2, .int az3, .int az4])), (w2, .inr (6, [.ref b0, .int r_76.2.2.1, .int r_76.2.2.2.1])), (b0, .inl (cC, 6000, .inl r_76.2.2.2.2))]) hP hD [0, 1, 3, 4] [2, 5, 6, 7, 8, 9, 10, 11] rfl rfl (by decide) (by decide) hk1 hFc hP1 hD1
            generalize H1 = H at hP hS ⊢
            have hP := hP.sub (ws' := [(h0, .inr (7, [.ref w0, .ref w1, .ref w2, .int r_76.1])), (w0, .inr (0, [.int r_76.2.1, .int az1, .int az2, .int az3, .int az4])), (w1, .inr (3, [.int r_14.1, .int r_14.2.1, .int r_14.2.2.1, .int r_14.2.2.2.1, .int r_14.2.2.2.2.1, .int r_14.2.2.2.2.2])), (w2, .inr (6, [.ref b0, .int r_76.2.2.1, .int r_76.2.2.2.1])), (b0, .inl (cC, 6000, .inl r_76.2.2.2.2)), (h1, .inr (4, [.ref q0, .ref q1, .ref q2, .ref q3, .ref q4, .ref q5, .int cn])), (q0, .inl (cI, 300, .inl t0)), (q1, .inl (cI, 300, .inl t1)), (q2, .inl (cI, 300, .inl t2)), (q3, .inl (cI, 300, .inl t3)), (q4, .inl (cI, 300, .inl t4)), (q5, .inl (cI, 300, .inl t5))]) [8, 9, 0, 10, 11, 1, 2, 3, 4, 5, 6, 7] rfl
            have hD := hD.sub (ws' := [(h0, .inr (7, [.ref w0, .ref w1, .ref w2, .int r_76.1])), (w0, .inr (0, [.int r_76.2.1, .int az1, .int az2, .int az3, .int az4])), (w1, .inr (3, [.int r_14.1, .int r_14.2.1, .int r_14.2.2.1, .int r_14.2.2.2.1, .int r_14.2.2.2.2.1, .int r_14.2.2.2.2.2])), (w2, .inr (6, [.ref b0, .int r_76.2.2.1, .int r_76.2.2.2.1])), (b0, .inl (cC, 6000, .inl r_76.2.2.2.2)), (h1, .inr (4, [.ref q0, .ref q1, .ref q2, .ref q3, .ref q4, .ref q5, .int cn])), (q0, .inl (cI, 300, .inl t0)), (q1, .inl (cI, 300, .inl t1)), (q2, .inl (cI, 300, .inl t2)), (q3, .inl (cI, 300, .inl t3)), (q4, .inl (cI, 300, .inl t4)), (q5, .inl (cI, 300, .inl t5))]) [8, 9, 0, 10, 11, 1, 2, 3, 4, 5, 6, 7] (by decide) rfl
            refine lv_aload_n hx hb dX7_writeTable_79 rfl (lv_at hl 0 rfl) ?_
            have p_77 : 0 ≤ r_76.2.2.1.toInt := by
              have q_78 := i_nle c_1
              have k_79 : (0 : Int32).toInt = 0 := by decide
              have q_80 := i_nle c_15
              have q_81 := i_ne c_67
              try have hq9 := hlin k (by omega) (by omega)
              try generalize Int32.toInt (t0 k.toNatClampNeg) = z0 at *
              try generalize Int32.toInt r_76.2.2.1 = z1 at *
              try generalize Int32.toInt r_14.1 = z2 at *
              try generalize Int32.toInt r_76.1 = z3 at *
              try generalize Int32.toInt cn = z4 at *
              try generalize Int32.toInt lz = z5 at *
              try generalize Int32.toInt wz = z6 at *
              try generalize Int32.toInt (0 : Int32) = z7 at *
              try generalize Int32.toInt k = z8 at *
              first | omega | exact ⟨by omega, by omega⟩
            have p_82 : r_76.2.2.1.toInt ≤ 6000 := by
              have q_83 := i_nle c_1
              have k_84 : (0 : Int32).toInt = 0 := by decide
              have q_85 := i_nle c_15
              have q_86 := i_ne c_67
              try have hq9 := hlin k (by omega) (by omega)
              try generalize Int32.toInt (t0 k.toNatClampNeg) = z0 at *
              try generalize Int32.toInt r_76.2.2.1 = z1 at *
              try generalize Int32.toInt r_14.1 = z2 at *
              try generalize Int32.toInt r_76.1 = z3 at *
              try generalize Int32.toInt cn = z4 at *
              try generalize Int32.toInt lz = z5 at *
              try generalize Int32.toInt wz = z6 at *
              try generalize Int32.toInt (0 : Int32) = z7 at *
              try generalize Int32.toInt k = z8 at *
              first | omega | exact ⟨by omega, by omega⟩
            have hPc := hP.sub (ws' := [(h0, .inr (7, [.ref w0, .ref w1, .ref w2, .int r_76.1])), (w0, .inr (0, [.int r_76.2.1, .int az1, .int az2, .int az3, .int az4])), (w1, .inr (3, [.int r_14.1, .int r_14.2.1, .int r_14.2.2.1, .int r_14.2.2.2.1, .int r_14.2.2.2.2.1, .int r_14.2.2.2.2.2])), (w2, .inr (6, [.ref b0, .int r_76.2.2.1, .int r_76.2.2.2.1])), (b0, .inl (cC, 6000, .inl r_76.2.2.2.2))]) [0, 1, 2, 3, 4] rfl
            have hDc := hD.sub (ws' := [(h0, .inr (7, [.ref w0, .ref w1, .ref w2, .int r_76.1])), (w0, .inr (0, [.int r_76.2.1, .int az1, .int az2, .int az3, .int az4])), (w1, .inr (3, [.int r_14.1, .int r_14.2.1, .int r_14.2.2.1, .int r_14.2.2.2.1, .int r_14.2.2.2.2.1, .int r_14.2.2.2.2.2])), (w2, .inr (6, [.ref b0, .int r_76.2.2.1, .int r_76.2.2.2.1])), (b0, .inl (cC, 6000, .inl r_76.2.2.2.2))]) [0, 1, 2, 3, 4] (by decide) rfl
            have hFc := va_free (wc := [(h0, .inr (7, [.ref w0, .ref w1, .ref w2, .int r_76.1])), (w0, .inr (0, [.int r_76.2.1, .int az1, .int az2, .int az3, .int az4])), (w1, .inr (3, [.int r_14.1, .int r_14.2.1, .int r_14.2.2.1, .int r_14.2.2.2.1, .int r_14.2.2.2.2.1, .int r_14.2.2.2.2.2])), (w2, .inr (6, [.ref b0, .int r_76.2.2.1, .int r_76.2.2.2.1])), (b0, .inl (cC, 6000, .inl r_76.2.2.2.2))]) hD hS hA [0, 1, 2, 3, 4] rfl
            refine va_callv (va_runV (As := []) (rest := []) ⟨hx, hb, hml, hown, hts⟩ (c_X7_writeSegment l dC dI cB cC cI cJ ak av H.size h0 w0 w1 w2 b0 r_76.1 r_76.2.1 az1 az2 az3 az4 r_14.1 r_14.2.1 r_14.2.2.1 r_14.2.2.2.1 r_14.2.2.2.2.1 r_14.2.2.2.2.2 r_76.2.2.2.2 r_76.2.2.1 r_76.2.2.2.1 p_77 p_82) (cwV 0 hts gX7_writeTable_X7_writeSegment rfl rfl rfl (by decide +kernel) ⟨(Nat.le_of_ble_eq_true rfl), (Nat.le_of_ble_eq_true rfl)⟩) ⟨cPs_blind, va_recv hG.1 hPc (ci := 7) (q0 := 0) rfl rfl, cPs_pre hPc hG hDc hSK hS hFc hSR⟩ rfl rfl hl.1 rfl (lv_room (Nat.le_of_ble_eq_true rfl)) dX7_writeTable_80 ⟨Nat.le_of_ble_eq_true rfl, Nat.le_of_ble_eq_true rfl⟩) hS (fun q _ h => hFc q h) hFc (fun u t H1 locs ht hvm hw hB hz1 hk1 hS => ?_)
            obtain ⟨hP1, hD1⟩ := hB
            rw [ht] at hP1
            generalize hr_87 : fX7_writeSegment r_76.1 r_76.2.1 az1 az2 az3 az4 r_14.1 r_14.2.1 r_14.2.2.1 r_14.2.2.2.1 r_14.2.2.2.2.1 r_14.2.2.2.2.2 r_76.2.2.2.2 r_76.2.2.1 r_76.2.2.2.1 = r_87 at hP1 hD1 hw
            have er_87_0 := hw
            rw [bnd_eq hr_87] at hR
            obtain ⟨hP, hD⟩ := va_join (wr := [(h1, .inr (4, [.ref q0, .ref q1, .ref q2, .ref q3, .ref q4, .ref q5, .int cn])), (q0, .inl (cI, 300, .inl t0)), (q1, .inl (cI, 300, .inl t1)), (q2, .inl (cI, 300, .inl t2)), (q3, .inl (cI, 300, .inl t3)), (q4, .inl (cI, 300, .inl t4)), (q5, .inl (cI, 300, .inl t5))]) (w1 := [(h0, .inr (7, [.ref w0, .ref w1, .ref w2, .int r_76.1])), (w0, .inr (0, [.int r_76.2.1, .int az1, .int az2, .int az3, .int az4])), (w1, .inr (3, [.int r_14.1, .int r_14.2.1, .int r_14.2.2.1, .int r_14.2.2.2.1, .int r_14.2.2.2.2.1, .int r_14.2.2.2.2.2])), (w2, .inr (6, [.ref b0, .int r_87.1, .int r_87.2.1])), (b0, .inl (cC, 6000, .inl r_87.2.2))]) hP hD [0, 1, 2, 3, 4] [5, 6, 7, 8, 9, 10, 11] rfl rfl (by decide) (by decide) hk1 hFc hP1 hD1
            generalize H1 = H at hP hS ⊢
            have hP := hP.sub (ws' := [(h0, .inr (7, [.ref w0, .ref w1, .ref w2, .int r_76.1])), (w0, .inr (0, [.int r_76.2.1, .int az1, .int az2, .int az3, .int az4])), (w1, .inr (3, [.int r_14.1, .int r_14.2.1, .int r_14.2.2.1, .int r_14.2.2.2.1, .int r_14.2.2.2.2.1, .int r_14.2.2.2.2.2])), (w2, .inr (6, [.ref b0, .int r_87.1, .int r_87.2.1])), (b0, .inl (cC, 6000, .inl r_87.2.2)), (h1, .inr (4, [.ref q0, .ref q1, .ref q2, .ref q3, .ref q4, .ref q5, .int cn])), (q0, .inl (cI, 300, .inl t0)), (q1, .inl (cI, 300, .inl t1)), (q2, .inl (cI, 300, .inl t2)), (q3, .inl (cI, 300, .inl t3)), (q4, .inl (cI, 300, .inl t4)), (q5, .inl (cI, 300, .inl t5))]) [7, 8, 9, 10, 11, 0, 1, 2, 3, 4, 5, 6] rfl
            have hD := hD.sub (ws' := [(h0, .inr (7, [.ref w0, .ref w1, .ref w2, .int r_76.1])), (w0, .inr (0, [.int r_76.2.1, .int az1, .int az2, .int az3, .int az4])), (w1, .inr (3, [.int r_14.1, .int r_14.2.1, .int r_14.2.2.1, .int r_14.2.2.2.1, .int r_14.2.2.2.2.1, .int r_14.2.2.2.2.2])), (w2, .inr (6, [.ref b0, .int r_87.1, .int r_87.2.1])), (b0, .inl (cC, 6000, .inl r_87.2.2)), (h1, .inr (4, [.ref q0, .ref q1, .ref q2, .ref q3, .ref q4, .ref q5, .int cn])), (q0, .inl (cI, 300, .inl t0)), (q1, .inl (cI, 300, .inl t1)), (q2, .inl (cI, 300, .inl t2)), (q3, .inl (cI, 300, .inl t3)), (q4, .inl (cI, 300, .inl t4)), (q5, .inl (cI, 300, .inl t5))]) [7, 8, 9, 10, 11, 0, 1, 2, 3, 4, 5, 6] (by decide) rfl
            refine lv_aload_n hx hb dX7_writeTable_83 rfl (lv_at hl 0 rfl) ?_
            refine va_get (D := (dC, dI)) (ci := 7) (v := .ref w0) (C := RX7) (T := TX7) (N := 4) hx hb hts inc_X7_writeTable_7 hown hG.1 hP 0 rfl rfl 0 (by decide) (hts (.fieldLink RX7 10 "MappingDesk$Writer" "ahead" "LMappingDesk$Ahead;") (by decide +kernel)) (fun _ h9 => h9) rfl dX7_writeTable_84 ?_
            refine lv_aload_n hx hb dX7_writeTable_87 rfl (lv_at hl 0 rfl) ?_
            refine va_get (D := (dC, dI)) (ci := 7) (v := .ref w1) (C := RX7) (T := TX7) (N := 4) hx hb hts inc_X7_writeTable_7 hown hG.1 hP 0 rfl rfl 1 (by decide) (hts (.fieldLink RX7 19 "MappingDesk$Writer" "segment" "LMappingDesk$Segment;") (by decide +kernel)) (fun _ h9 => h9) rfl dX7_writeTable_88 ?_
            have hPc := hP.sub (ws' := [(w0, .inr (0, [.int r_76.2.1, .int az1, .int az2, .int az3, .int az4])), (w1, .inr (3, [.int r_14.1, .int r_14.2.1, .int r_14.2.2.1, .int r_14.2.2.2.1, .int r_14.2.2.2.2.1, .int r_14.2.2.2.2.2]))]) [1, 2] rfl
            have hDc := hD.sub (ws' := [(w0, .inr (0, [.int r_76.2.1, .int az1, .int az2, .int az3, .int az4])), (w1, .inr (3, [.int r_14.1, .int r_14.2.1, .int r_14.2.2.1, .int r_14.2.2.2.1, .int r_14.2.2.2.2.1, .int r_14.2.2.2.2.2]))]) [1, 2] (by decide) rfl
            have hFc := va_free (wc := [(w0, .inr (0, [.int r_76.2.1, .int az1, .int az2, .int az3, .int az4])), (w1, .inr (3, [.int r_14.1, .int r_14.2.1, .int r_14.2.2.1, .int r_14.2.2.2.1, .int r_14.2.2.2.2.1, .int r_14.2.2.2.2.2]))]) hD hS hA [1, 2] rfl
            refine va_callv (va_runVN (C := RX0) (As := [.ref w1]) (rest := []) ⟨hx, hb, hml, hown, hts⟩ (c_X0_pass l dC dI cB cC cI cJ H.size w0 w1 r_76.2.1 az1 az2 az3 az4 r_14.1 r_14.2.1 r_14.2.2.1 r_14.2.2.2.1 r_14.2.2.2.2.1 r_14.2.2.2.2.2 ) ⟨va_cnB 1 hts gX7_writeTable_X0_pass_n61 rfl rfl rfl (hG.nm (A := #[]) (w := .methodLinkNest RX7 61 yX0_pass "MappingDesk") (by decide +kernel)) (hts (.initialized RX0) (by decide +kernel)) (by decide +kernel) ⟨(Nat.le_of_ble_eq_true rfl), (Nat.le_of_ble_eq_true rfl)⟩, hts (.instanceMethod yX0_pass) (by decide +kernel), hts (.selects RX0 yX0_pass yX0_pass) (by decide +kernel)⟩ ⟨cP_blind, va_recv hG.1 hPc (ci := 0) (q0 := 0) rfl rfl, cP_pre hPc hG hDc⟩ rfl rfl hl.1 rfl (lv_room (Nat.le_of_ble_eq_true rfl)) dX7_writeTable_91 ⟨Nat.le_of_ble_eq_true rfl, Nat.le_of_ble_eq_true rfl⟩) hS (fun q _ h => hFc q h) hFc (fun u t H1 locs ht hvm hw hB hz1 hk1 hS => ?_)
            obtain ⟨hP1, hD1⟩ := hB
            rw [ht] at hP1
            generalize hr_88 : fX0_pass r_76.2.1 az1 az2 az3 az4 r_14.1 r_14.2.1 r_14.2.2.1 r_14.2.2.2.1 r_14.2.2.2.2.1 r_14.2.2.2.2.2 = r_88 at hP1 hD1
            rw [bnd_eq hr_88] at hR
            obtain ⟨hP, hD⟩ := va_join (wr := [(h0, .inr (7, [.ref w0, .ref w1, .ref w2, .int r_76.1])), (w2, .inr (6, [.ref b0, .int r_87.1, .int r_87.2.1])), (b0, .inl (cC, 6000, .inl r_87.2.2)), (h1, .inr (4, [.ref q0, .ref q1, .ref q2, .ref q3, .ref q4, .ref q5, .int cn])), (q0, .inl (cI, 300, .inl t0)), (q1, .inl (cI, 300, .inl t1)), (q2, .inl (cI, 300, .inl t2)), (q3, .inl (cI, 300, .inl t3)), (q4, .inl (cI, 300, .inl t4)), (q5, .inl (cI, 300, .inl t5))]) (w1 := [(w0, .inr (0, [.int r_88.1, .int r_88.2.1, .int r_88.2.2.1, .int r_88.2.2.2.1, .int r_88.2.2.2.2])), (w1, .inr (3, [.int r_14.1, .int r_14.2.1, .int r_14.2.2.1, .int r_14.2.2.2.1, .int r_14.2.2.2.2.1, .int r_14.2.2.2.2.2]))]) hP hD [1, 2] [0, 3, 4, 5, 6, 7, 8, 9, 10, 11] rfl rfl (by decide) (by decide) hk1 hFc hP1 hD1
            generalize H1 = H at hP hS ⊢
            have hP := hP.sub (ws' := [(h0, .inr (7, [.ref w0, .ref w1, .ref w2, .int r_76.1])), (w0, .inr (0, [.int r_88.1, .int r_88.2.1, .int r_88.2.2.1, .int r_88.2.2.2.1, .int r_88.2.2.2.2])), (w1, .inr (3, [.int r_14.1, .int r_14.2.1, .int r_14.2.2.1, .int r_14.2.2.2.1, .int r_14.2.2.2.2.1, .int r_14.2.2.2.2.2])), (w2, .inr (6, [.ref b0, .int r_87.1, .int r_87.2.1])), (b0, .inl (cC, 6000, .inl r_87.2.2)), (h1, .inr (4, [.ref q0, .ref q1, .ref q2, .ref q3, .ref q4, .ref q5, .int cn])), (q0, .inl (cI, 300, .inl t0)), (q1, .inl (cI, 300, .inl t1)), (q2, .inl (cI, 300, .inl t2)), (q3, .inl (cI, 300, .inl t3)), (q4, .inl (cI, 300, .inl t4)), (q5, .inl (cI, 300, .inl t5))]) [0, 10, 11, 1, 2, 3, 4, 5, 6, 7, 8, 9] rfl
            have hD := hD.sub (ws' := [(h0, .inr (7, [.ref w0, .ref w1, .ref w2, .int r_76.1])), (w0, .inr (0, [.int r_88.1, .int r_88.2.1, .int r_88.2.2.1, .int r_88.2.2.2.1, .int r_88.2.2.2.2])), (w1, .inr (3, [.int r_14.1, .int r_14.2.1, .int r_14.2.2.1, .int r_14.2.2.2.1, .int r_14.2.2.2.2.1, .int r_14.2.2.2.2.2])), (w2, .inr (6, [.ref b0, .int r_87.1, .int r_87.2.1])), (b0, .inl (cC, 6000, .inl r_87.2.2)), (h1, .inr (4, [.ref q0, .ref q1, .ref q2, .ref q3, .ref q4, .ref q5, .int cn])), (q0, .inl (cI, 300, .inl t0)), (q1, .inl (cI, 300, .inl t1)), (q2, .inl (cI, 300, .inl t2)), (q3, .inl (cI, 300, .inl t3)), (q4, .inl (cI, 300, .inl t4)), (q5, .inl (cI, 300, .inl t5))]) [0, 10, 11, 1, 2, 3, 4, 5, 6, 7, 8, 9] (by decide) rfl
            refine lv_iinc (v := (k + 1)) (lv' := [(2, .int (k + 1)), (0, .ref h0), (1, .ref h1)]) hx hb dX7_writeTable_94 hl (k := 2) rfl rfl (by decide) rfl (fun ls hl => ?_)
            refine lv_goto (tgt := 21) hx hb dX7_writeTable_97 (by decide) ?_
            have v_93 : 0 ≤ ((k + 1)).toInt := by
              have q_94 := i_nle c_1
              have k_95 : (0 : Int32).toInt = 0 := by decide
              have q_96 := i_nle c_15
              have q_97 := i_ne c_67
              try have hq9 := hlin k (by omega) (by omega)
              have k_98 : (1 : Int32).toInt = 1 := by decide
              have t_99 := ti_add (a := k) (b := 1) (by omega) (by omega)
              try generalize Int32.toInt (t0 k.toNatClampNeg) = z0 at *
              try generalize Int32.toInt r_76.2.2.1 = z1 at *
              try generalize Int32.toInt (k + 1) = z2 at *
              try generalize Int32.toInt r_14.1 = z3 at *
              try generalize Int32.toInt r_76.1 = z4 at *
              try generalize Int32.toInt r_87.1 = z5 at *
              try generalize Int32.toInt cn = z6 at *
              try generalize Int32.toInt lz = z7 at *
              try generalize Int32.toInt wz = z8 at *
              try generalize Int32.toInt (0 : Int32) = z9 at *
              try generalize Int32.toInt (1 : Int32) = z10 at *
              try generalize Int32.toInt k = z11 at *
              omega
            have v_100 : ((k + 1)).toInt ≤ cn.toInt := by
              have q_101 := i_nle c_1
              have k_102 : (0 : Int32).toInt = 0 := by decide
              have q_103 := i_nle c_15
              have q_104 := i_ne c_67
              try have hq9 := hlin k (by omega) (by omega)
              have k_105 : (1 : Int32).toInt = 1 := by decide
              have t_106 := ti_add (a := k) (b := 1) (by omega) (by omega)
              try generalize Int32.toInt (t0 k.toNatClampNeg) = z0 at *
              try generalize Int32.toInt r_76.2.2.1 = z1 at *
              try generalize Int32.toInt (k + 1) = z2 at *
              try generalize Int32.toInt r_14.1 = z3 at *
              try generalize Int32.toInt r_76.1 = z4 at *
              try generalize Int32.toInt r_87.1 = z5 at *
              try generalize Int32.toInt cn = z6 at *
              try generalize Int32.toInt lz = z7 at *
              try generalize Int32.toInt wz = z8 at *
              try generalize Int32.toInt (0 : Int32) = z9 at *
              try generalize Int32.toInt (1 : Int32) = z10 at *
              try generalize Int32.toInt k = z11 at *
              omega
            have v_107 : 0 ≤ r_87.1.toInt := by
              have q_108 := i_nle c_1
              have k_109 : (0 : Int32).toInt = 0 := by decide
              have q_110 := i_nle c_15
              have q_111 := i_ne c_67
              try have hq9 := hlin k (by omega) (by omega)
              try generalize Int32.toInt (t0 k.toNatClampNeg) = z0 at *
              try generalize Int32.toInt r_76.2.2.1 = z1 at *
              try generalize Int32.toInt r_14.1 = z2 at *
              try generalize Int32.toInt r_76.1 = z3 at *
              try generalize Int32.toInt r_87.1 = z4 at *
              try generalize Int32.toInt cn = z5 at *
              try generalize Int32.toInt lz = z6 at *
              try generalize Int32.toInt wz = z7 at *
              try generalize Int32.toInt (0 : Int32) = z8 at *
              try generalize Int32.toInt k = z9 at *
              omega
            have v_112 : r_87.1.toInt ≤ 6000 := by
              have q_113 := i_nle c_1
              have k_114 : (0 : Int32).toInt = 0 := by decide
              have q_115 := i_nle c_15
              have q_116 := i_ne c_67
              try have hq9 := hlin k (by omega) (by omega)
              try generalize Int32.toInt (t0 k.toNatClampNeg) = z0 at *
              try generalize Int32.toInt r_76.2.2.1 = z1 at *
              try generalize Int32.toInt r_14.1 = z2 at *
              try generalize Int32.toInt r_76.1 = z3 at *
              try generalize Int32.toInt r_87.1 = z4 at *
              try generalize Int32.toInt cn = z5 at *
              try generalize Int32.toInt lz = z6 at *
              try generalize Int32.toInt wz = z7 at *
              try generalize Int32.toInt (0 : Int32) = z8 at *
              try generalize Int32.toInt k = z9 at *
              omega
            have v_117 : 0 ≤ r_76.1.toInt := by
              have q_118 := i_nle c_1
              have k_119 : (0 : Int32).toInt = 0 := by decide
              have q_120 := i_nle c_15
              have q_121 := i_ne c_67
              try have hq9 := hlin k (by omega) (by omega)
              try generalize Int32.toInt (t0 k.toNatClampNeg) = z0 at *
              try generalize Int32.toInt r_76.2.2.1 = z1 at *
              try generalize Int32.toInt r_14.1 = z2 at *
              try generalize Int32.toInt r_76.1 = z3 at *
              try generalize Int32.toInt r_87.1 = z4 at *
              try generalize Int32.toInt cn = z5 at *
              try generalize Int32.toInt lz = z6 at *
              try generalize Int32.toInt wz = z7 at *
              try generalize Int32.toInt (0 : Int32) = z8 at *
              try generalize Int32.toInt k = z9 at *
              omega
            have v_122 : cn.toInt - ((k + 1)).toInt < ((n : Nat) : Int) := by
              have q_123 := i_nle c_1
              have k_124 : (0 : Int32).toInt = 0 := by decide
              have q_125 := i_nle c_15
              have q_126 := i_ne c_67
              try have hq9 := hlin k (by omega) (by omega)
              have k_127 : (1 : Int32).toInt = 1 := by decide
              have t_128 := ti_add (a := k) (b := 1) (by omega) (by omega)
              try generalize Int32.toInt (t0 k.toNatClampNeg) = z0 at *
              try generalize Int32.toInt r_76.2.2.1 = z1 at *
              try generalize Int32.toInt (k + 1) = z2 at *
              try generalize Int32.toInt r_14.1 = z3 at *
              try generalize Int32.toInt r_76.1 = z4 at *
              try generalize Int32.toInt r_87.1 = z5 at *
              try generalize Int32.toInt cn = z6 at *
              try generalize Int32.toInt lz = z7 at *
              try generalize Int32.toInt wz = z8 at *
              try generalize Int32.toInt (0 : Int32) = z9 at *
              try generalize Int32.toInt (1 : Int32) = z10 at *
              try generalize Int32.toInt k = z11 at *
              omega
            exact ih ((k + 1)) (r_76.1) (r_88.1) (r_88.2.1) (r_88.2.2.1) (r_88.2.2.2.1) (r_88.2.2.2.2) (r_14.1) (r_14.2.1) (r_14.2.2.1) (r_14.2.2.2.1) (r_14.2.2.2.2.1) (r_14.2.2.2.2.2) (r_87.1) (r_87.2.1) (r_87.2.2) _ _ ls hR v_93 v_100 v_107 v_112 v_117 v_122 hP hD hS (lv_sub hl [1, 2, 0] rfl)
          · rw [if_pos c_67] at hR
            refine lv_aload_n hx hb dX7_writeTable_56 rfl (lv_at hl 0 rfl) ?_
            refine va_get (D := (dC, dI)) (ci := 7) (v := .ref w2) (C := RX7) (T := TX7) (N := 4) hx hb hts inc_X7_writeTable_7 hown hG.1 hP 0 rfl rfl 2 (by decide) (hts (.fieldLink RX7 26 "MappingDesk$Writer" "made" "LMappingDesk$Text;") (by decide +kernel)) (fun _ h9 => h9) rfl dX7_writeTable_57 ?_
            refine lv_bipush (v := 44) hx hb dX7_writeTable_60 (by decide) ?_
            have p_129 : 0 ≤ lz.toInt := by
              first | exact hz0 | assumption
            have p_130 : lz.toInt ≤ 6000 := by
              first | exact hz1 | assumption
            have hPc := hP.sub (ws' := [(w2, .inr (6, [.ref b0, .int lz, .int oz])), (b0, .inl (cC, 6000, .inl cz))]) [3, 4] rfl
            have hDc := hD.sub (ws' := [(w2, .inr (6, [.ref b0, .int lz, .int oz])), (b0, .inl (cC, 6000, .inl cz))]) [3, 4] (by decide) rfl
            have hFc := va_free (wc := [(w2, .inr (6, [.ref b0, .int lz, .int oz])), (b0, .inl (cC, 6000, .inl cz))]) hD hS hA [3, 4] rfl
            refine va_callv (va_runVN (C := RX6) (As := [.int 44]) (rest := []) ⟨hx, hb, hml, hown, hts⟩ (c_X6_append l dC dI cB cC cI cJ H.size w2 b0 cz lz oz 44 p_129 p_130) ⟨va_cnB 1 hts gX7_writeTable_X6_append_n50 rfl rfl rfl (hG.nm (A := #[]) (w := .methodLinkNest RX7 50 yX6_append "MappingDesk") (by decide +kernel)) (hts (.initialized RX6) (by decide +kernel)) (by decide +kernel) ⟨(Nat.le_of_ble_eq_true rfl), (Nat.le_of_ble_eq_true rfl)⟩, hts (.instanceMethod yX6_append) (by decide +kernel), hts (.selects RX6 yX6_append yX6_append) (by decide +kernel)⟩ ⟨cP_blind, va_recv hG.1 hPc (ci := 6) (q0 := 0) rfl rfl, cP_pre hPc hG hDc⟩ rfl rfl hl.1 rfl (lv_room (Nat.le_of_ble_eq_true rfl)) dX7_writeTable_62 ⟨Nat.le_of_ble_eq_true rfl, Nat.le_of_ble_eq_true rfl⟩) hS (fun q _ h => hFc q h) hFc (fun u t H1 locs ht hvm hw hB hz1 hk1 hS => ?_)
            obtain ⟨hP1, hD1⟩ := hB
            rw [ht] at hP1
            generalize hr_131 : fX6_append cz lz oz 44 = r_131 at hP1 hD1 hw
            have er_131_0 := hw
            rw [bnd_eq hr_131] at hR
            obtain ⟨hP, hD⟩ := va_join (wr := [(h0, .inr (7, [.ref w0, .ref w1, .ref w2, .int wz])), (w0, .inr (0, [.int az0, .int az1, .int az2, .int az3, .int az4])), (w1, .inr (3, [.int r_14.1, .int r_14.2.1, .int r_14.2.2.1, .int r_14.2.2.2.1, .int r_14.2.2.2.2.1, .int r_14.2.2.2.2.2])), (h1, .inr (4, [.ref q0, .ref q1, .ref q2, .ref q3, .ref q4, .ref q5, .int cn])), (q0, .inl (cI, 300, .inl t0)), (q1, .inl (cI, 300, .inl t1)), (q2, .inl (cI, 300, .inl t2)), (q3, .inl (cI, 300, .inl t3)), (q4, .inl (cI, 300, .inl t4)), (q5, .inl (cI, 300, .inl t5))]) (w1 := [(w2, .inr (6, [.ref b0, .int r_131.1, .int r_131.2.1])), (b0, .inl (cC, 6000, .inl r_131.2.2))]) hP hD [3, 4] [0, 1, 2, 5, 6, 7, 8, 9, 10, 11] rfl rfl (by decide) (by decide) hk1 hFc hP1 hD1
            generalize H1 = H at hP hS ⊢
            have hP := hP.sub (ws' := [(h0, .inr (7, [.ref w0, .ref w1, .ref w2, .int wz])), (w0, .inr (0, [.int az0, .int az1, .int az2, .int az3, .int az4])), (w1, .inr (3, [.int r_14.1, .int r_14.2.1, .int r_14.2.2.1, .int r_14.2.2.2.1, .int r_14.2.2.2.2.1, .int r_14.2.2.2.2.2])), (w2, .inr (6, [.ref b0, .int r_131.1, .int r_131.2.1])), (b0, .inl (cC, 6000, .inl r_131.2.2)), (h1, .inr (4, [.ref q0, .ref q1, .ref q2, .ref q3, .ref q4, .ref q5, .int cn])), (q0, .inl (cI, 300, .inl t0)), (q1, .inl (cI, 300, .inl t1)), (q2, .inl (cI, 300, .inl t2)), (q3, .inl (cI, 300, .inl t3)), (q4, .inl (cI, 300, .inl t4)), (q5, .inl (cI, 300, .inl t5))]) [0, 1, 2, 10, 11, 3, 4, 5, 6, 7, 8, 9] rfl
            have hD := hD.sub (ws' := [(h0, .inr (7, [.ref w0, .ref w1, .ref w2, .int wz])), (w0, .inr (0, [.int az0, .int az1, .int az2, .int az3, .int az4])), (w1, .inr (3, [.int r_14.1, .int r_14.2.1, .int r_14.2.2.1, .int r_14.2.2.2.1, .int r_14.2.2.2.2.1, .int r_14.2.2.2.2.2])), (w2, .inr (6, [.ref b0, .int r_131.1, .int r_131.2.1])), (b0, .inl (cC, 6000, .inl r_131.2.2)), (h1, .inr (4, [.ref q0, .ref q1, .ref q2, .ref q3, .ref q4, .ref q5, .int cn])), (q0, .inl (cI, 300, .inl t0)), (q1, .inl (cI, 300, .inl t1)), (q2, .inl (cI, 300, .inl t2)), (q3, .inl (cI, 300, .inl t3)), (q4, .inl (cI, 300, .inl t4)), (q5, .inl (cI, 300, .inl t5))]) [0, 1, 2, 10, 11, 3, 4, 5, 6, 7, 8, 9] (by decide) rfl
            refine lv_goto (tgt := 79) hx hb dX7_writeTable_65 (by decide) ?_
            refine lv_aload_n hx hb dX7_writeTable_79 rfl (lv_at hl 0 rfl) ?_
            have p_132 : 0 ≤ r_131.1.toInt := by
              have q_133 := i_nle c_1
              have k_134 : (0 : Int32).toInt = 0 := by decide
              have q_135 := i_nle c_15
              have q_136 := i_eq c_67
              try have hq9 := hlin k (by omega) (by omega)
              try generalize Int32.toInt (t0 k.toNatClampNeg) = z0 at *
              try generalize Int32.toInt r_131.1 = z1 at *
              try generalize Int32.toInt r_14.1 = z2 at *
              try generalize Int32.toInt cn = z3 at *
              try generalize Int32.toInt lz = z4 at *
              try generalize Int32.toInt wz = z5 at *
              try generalize Int32.toInt (0 : Int32) = z6 at *
              try generalize Int32.toInt k = z7 at *
              first | omega | exact ⟨by omega, by omega⟩
            have p_137 : r_131.1.toInt ≤ 6000 := by
              have q_138 := i_nle c_1
              have k_139 : (0 : Int32).toInt = 0 := by decide
              have q_140 := i_nle c_15
              have q_141 := i_eq c_67
              try have hq9 := hlin k (by omega) (by omega)
              try generalize Int32.toInt (t0 k.toNatClampNeg) = z0 at *
              try generalize Int32.toInt r_131.1 = z1 at *
              try generalize Int32.toInt r_14.1 = z2 at *
              try generalize Int32.toInt cn = z3 at *
              try generalize Int32.toInt lz = z4 at *
              try generalize Int32.toInt wz = z5 at *
              try generalize Int32.toInt (0 : Int32) = z6 at *
              try generalize Int32.toInt k = z7 at *
              first | omega | exact ⟨by omega, by omega⟩
            have hPc := hP.sub (ws' := [(h0, .inr (7, [.ref w0, .ref w1, .ref w2, .int wz])), (w0, .inr (0, [.int az0, .int az1, .int az2, .int az3, .int az4])), (w1, .inr (3, [.int r_14.1, .int r_14.2.1, .int r_14.2.2.1, .int r_14.2.2.2.1, .int r_14.2.2.2.2.1, .int r_14.2.2.2.2.2])), (w2, .inr (6, [.ref b0, .int r_131.1, .int r_131.2.1])), (b0, .inl (cC, 6000, .inl r_131.2.2))]) [0, 1, 2, 3, 4] rfl
            have hDc := hD.sub (ws' := [(h0, .inr (7, [.ref w0, .ref w1, .ref w2, .int wz])), (w0, .inr (0, [.int az0, .int az1, .int az2, .int az3, .int az4])), (w1, .inr (3, [.int r_14.1, .int r_14.2.1, .int r_14.2.2.1, .int r_14.2.2.2.1, .int r_14.2.2.2.2.1, .int r_14.2.2.2.2.2])), (w2, .inr (6, [.ref b0, .int r_131.1, .int r_131.2.1])), (b0, .inl (cC, 6000, .inl r_131.2.2))]) [0, 1, 2, 3, 4] (by decide) rfl
            have hFc := va_free (wc := [(h0, .inr (7, [.ref w0, .ref w1, .ref w2, .int wz])), (w0, .inr (0, [.int az0, .int az1, .int az2, .int az3, .int az4])), (w1, .inr (3, [.int r_14.1, .int r_14.2.1, .int r_14.2.2.1, .int r_14.2.2.2.1, .int r_14.2.2.2.2.1, .int r_14.2.2.2.2.2])), (w2, .inr (6, [.ref b0, .int r_131.1, .int r_131.2.1])), (b0, .inl (cC, 6000, .inl r_131.2.2))]) hD hS hA [0, 1, 2, 3, 4] rfl
            refine va_callv (va_runV (As := []) (rest := []) ⟨hx, hb, hml, hown, hts⟩ (c_X7_writeSegment l dC dI cB cC cI cJ ak av H.size h0 w0 w1 w2 b0 wz az0 az1 az2 az3 az4 r_14.1 r_14.2.1 r_14.2.2.1 r_14.2.2.2.1 r_14.2.2.2.2.1 r_14.2.2.2.2.2 r_131.2.2 r_131.1 r_131.2.1 p_132 p_137) (cwV 0 hts gX7_writeTable_X7_writeSegment rfl rfl rfl (by decide +kernel) ⟨(Nat.le_of_ble_eq_true rfl), (Nat.le_of_ble_eq_true rfl)⟩) ⟨cPs_blind, va_recv hG.1 hPc (ci := 7) (q0 := 0) rfl rfl, cPs_pre hPc hG hDc hSK hS hFc hSR⟩ rfl rfl hl.1 rfl (lv_room (Nat.le_of_ble_eq_true rfl)) dX7_writeTable_80 ⟨Nat.le_of_ble_eq_true rfl, Nat.le_of_ble_eq_true rfl⟩) hS (fun q _ h => hFc q h) hFc (fun u t H1 locs ht hvm hw hB hz1 hk1 hS => ?_)
            obtain ⟨hP1, hD1⟩ := hB
            rw [ht] at hP1
            generalize hr_142 : fX7_writeSegment wz az0 az1 az2 az3 az4 r_14.1 r_14.2.1 r_14.2.2.1 r_14.2.2.2.1 r_14.2.2.2.2.1 r_14.2.2.2.2.2 r_131.2.2 r_131.1 r_131.2.1 = r_142 at hP1 hD1 hw
            have er_142_0 := hw
            rw [bnd_eq hr_142] at hR
            obtain ⟨hP, hD⟩ := va_join (wr := [(h1, .inr (4, [.ref q0, .ref q1, .ref q2, .ref q3, .ref q4, .ref q5, .int cn])), (q0, .inl (cI, 300, .inl t0)), (q1, .inl (cI, 300, .inl t1)), (q2, .inl (cI, 300, .inl t2)), (q3, .inl (cI, 300, .inl t3)), (q4, .inl (cI, 300, .inl t4)), (q5, .inl (cI, 300, .inl t5))]) (w1 := [(h0, .inr (7, [.ref w0, .ref w1, .ref w2, .int wz])), (w0, .inr (0, [.int az0, .int az1, .int az2, .int az3, .int az4])), (w1, .inr (3, [.int r_14.1, .int r_14.2.1, .int r_14.2.2.1, .int r_14.2.2.2.1, .int r_14.2.2.2.2.1, .int r_14.2.2.2.2.2])), (w2, .inr (6, [.ref b0, .int r_142.1, .int r_142.2.1])), (b0, .inl (cC, 6000, .inl r_142.2.2))]) hP hD [0, 1, 2, 3, 4] [5, 6, 7, 8, 9, 10, 11] rfl rfl (by decide) (by decide) hk1 hFc hP1 hD1
            generalize H1 = H at hP hS ⊢
            have hP := hP.sub (ws' := [(h0, .inr (7, [.ref w0, .ref w1, .ref w2, .int wz])), (w0, .inr (0, [.int az0, .int az1, .int az2, .int az3, .int az4])), (w1, .inr (3, [.int r_14.1, .int r_14.2.1, .int r_14.2.2.1, .int r_14.2.2.2.1, .int r_14.2.2.2.2.1, .int r_14.2.2.2.2.2])), (w2, .inr (6, [.ref b0, .int r_142.1, .int r_142.2.1])), (b0, .inl (cC, 6000, .inl r_142.2.2)), (h1, .inr (4, [.ref q0, .ref q1, .ref q2, .ref q3, .ref q4, .ref q5, .int cn])), (q0, .inl (cI, 300, .inl t0)), (q1, .inl (cI, 300, .inl t1)), (q2, .inl (cI, 300, .inl t2)), (q3, .inl (cI, 300, .inl t3)), (q4, .inl (cI, 300, .inl t4)), (q5, .inl (cI, 300, .inl t5))]) [7, 8, 9, 10, 11, 0, 1, 2, 3, 4, 5, 6] rfl
            have hD := hD.sub (ws' := [(h0, .inr (7, [.ref w0, .ref w1, .ref w2, .int wz])), (w0, .inr (0, [.int az0, .int az1, .int az2, .int az3, .int az4])), (w1, .inr (3, [.int r_14.1, .int r_14.2.1, .int r_14.2.2.1, .int r_14.2.2.2.1, .int r_14.2.2.2.2.1, .int r_14.2.2.2.2.2])), (w2, .inr (6, [.ref b0, .int r_142.1, .int r_142.2.1])), (b0, .inl (cC, 6000, .inl r_142.2.2)), (h1, .inr (4, [.ref q0, .ref q1, .ref q2, .ref q3, .ref q4, .ref q5, .int cn])), (q0, .inl (cI, 300, .inl t0)), (q1, .inl (cI, 300, .inl t1)), (q2, .inl (cI, 300, .inl t2)), (q3, .inl (cI, 300, .inl t3)), (q4, .inl (cI, 300, .inl t4)), (q5, .inl (cI, 300, .inl t5))]) [7, 8, 9, 10, 11, 0, 1, 2, 3, 4, 5, 6] (by decide) rfl
            refine lv_aload_n hx hb dX7_writeTable_83 rfl (lv_at hl 0 rfl) ?_
            refine va_get (D := (dC, dI)) (ci := 7) (v := .ref w0) (C := RX7) (T := TX7) (N := 4) hx hb hts inc_X7_writeTable_7 hown hG.1 hP 0 rfl rfl 0 (by decide) (hts (.fieldLink RX7 10 "MappingDesk$Writer" "ahead" "LMappingDesk$Ahead;") (by decide +kernel)) (fun _ h9 => h9) rfl dX7_writeTable_84 ?_
            refine lv_aload_n hx hb dX7_writeTable_87 rfl (lv_at hl 0 rfl) ?_
            refine va_get (D := (dC, dI)) (ci := 7) (v := .ref w1) (C := RX7) (T := TX7) (N := 4) hx hb hts inc_X7_writeTable_7 hown hG.1 hP 0 rfl rfl 1 (by decide) (hts (.fieldLink RX7 19 "MappingDesk$Writer" "segment" "LMappingDesk$Segment;") (by decide +kernel)) (fun _ h9 => h9) rfl dX7_writeTable_88 ?_
            have hPc := hP.sub (ws' := [(w0, .inr (0, [.int az0, .int az1, .int az2, .int az3, .int az4])), (w1, .inr (3, [.int r_14.1, .int r_14.2.1, .int r_14.2.2.1, .int r_14.2.2.2.1, .int r_14.2.2.2.2.1, .int r_14.2.2.2.2.2]))]) [1, 2] rfl
            have hDc := hD.sub (ws' := [(w0, .inr (0, [.int az0, .int az1, .int az2, .int az3, .int az4])), (w1, .inr (3, [.int r_14.1, .int r_14.2.1, .int r_14.2.2.1, .int r_14.2.2.2.1, .int r_14.2.2.2.2.1, .int r_14.2.2.2.2.2]))]) [1, 2] (by decide) rfl
            have hFc := va_free (wc := [(w0, .inr (0, [.int az0, .int az1, .int az2, .int az3, .int az4])), (w1, .inr (3, [.int r_14.1, .int r_14.2.1, .int r_14.2.2.1, .int r_14.2.2.2.1, .int r_14.2.2.2.2.1, .int r_14.2.2.2.2.2]))]) hD hS hA [1, 2] rfl
            refine va_callv (va_runVN (C := RX0) (As := [.ref w1]) (rest := []) ⟨hx, hb, hml, hown, hts⟩ (c_X0_pass l dC dI cB cC cI cJ H.size w0 w1 az0 az1 az2 az3 az4 r_14.1 r_14.2.1 r_14.2.2.1 r_14.2.2.2.1 r_14.2.2.2.2.1 r_14.2.2.2.2.2 ) ⟨va_cnB 1 hts gX7_writeTable_X0_pass_n61 rfl rfl rfl (hG.nm (A := #[]) (w := .methodLinkNest RX7 61 yX0_pass "MappingDesk") (by decide +kernel)) (hts (.initialized RX0) (by decide +kernel)) (by decide +kernel) ⟨(Nat.le_of_ble_eq_true rfl), (Nat.le_of_ble_eq_true rfl)⟩, hts (.instanceMethod yX0_pass) (by decide +kernel), hts (.selects RX0 yX0_pass yX0_pass) (by decide +kernel)⟩ ⟨cP_blind, va_recv hG.1 hPc (ci := 0) (q0 := 0) rfl rfl, cP_pre hPc hG hDc⟩ rfl rfl hl.1 rfl (lv_room (Nat.le_of_ble_eq_true rfl)) dX7_writeTable_91 ⟨Nat.le_of_ble_eq_true rfl, Nat.le_of_ble_eq_true rfl⟩) hS (fun q _ h => hFc q h) hFc (fun u t H1 locs ht hvm hw hB hz1 hk1 hS => ?_)
            obtain ⟨hP1, hD1⟩ := hB
            rw [ht] at hP1
            generalize hr_143 : fX0_pass az0 az1 az2 az3 az4 r_14.1 r_14.2.1 r_14.2.2.1 r_14.2.2.2.1 r_14.2.2.2.2.1 r_14.2.2.2.2.2 = r_143 at hP1 hD1
            rw [bnd_eq hr_143] at hR
            obtain ⟨hP, hD⟩ := va_join (wr := [(h0, .inr (7, [.ref w0, .ref w1, .ref w2, .int wz])), (w2, .inr (6, [.ref b0, .int r_142.1, .int r_142.2.1])), (b0, .inl (cC, 6000, .inl r_142.2.2)), (h1, .inr (4, [.ref q0, .ref q1, .ref q2, .ref q3, .ref q4, .ref q5, .int cn])), (q0, .inl (cI, 300, .inl t0)), (q1, .inl (cI, 300, .inl t1)), (q2, .inl (cI, 300, .inl t2)), (q3, .inl (cI, 300, .inl t3)), (q4, .inl (cI, 300, .inl t4)), (q5, .inl (cI, 300, .inl t5))]) (w1 := [(w0, .inr (0, [.int r_143.1, .int r_143.2.1, .int r_143.2.2.1, .int r_143.2.2.2.1, .int r_143.2.2.2.2])), (w1, .inr (3, [.int r_14.1, .int r_14.2.1, .int r_14.2.2.1, .int r_14.2.2.2.1, .int r_14.2.2.2.2.1, .int r_14.2.2.2.2.2]))]) hP hD [1, 2] [0, 3, 4, 5, 6, 7, 8, 9, 10, 11] rfl rfl (by decide) (by decide) hk1 hFc hP1 hD1
            generalize H1 = H at hP hS ⊢
            have hP := hP.sub (ws' := [(h0, .inr (7, [.ref w0, .ref w1, .ref w2, .int wz])), (w0, .inr (0, [.int r_143.1, .int r_143.2.1, .int r_143.2.2.1, .int r_143.2.2.2.1, .int r_143.2.2.2.2])), (w1, .inr (3, [.int r_14.1, .int r_14.2.1, .int r_14.2.2.1, .int r_14.2.2.2.1, .int r_14.2.2.2.2.1, .int r_14.2.2.2.2.2])), (w2, .inr (6, [.ref b0, .int r_142.1, .int r_142.2.1])), (b0, .inl (cC, 6000, .inl r_142.2.2)), (h1, .inr (4, [.ref q0, .ref q1, .ref q2, .ref q3, .ref q4, .ref q5, .int cn])), (q0, .inl (cI, 300, .inl t0)), (q1, .inl (cI, 300, .inl t1)), (q2, .inl (cI, 300, .inl t2)), (q3, .inl (cI, 300, .inl t3)), (q4, .inl (cI, 300, .inl t4)), (q5, .inl (cI, 300, .inl t5))]) [0, 10, 11, 1, 2, 3, 4, 5, 6, 7, 8, 9] rfl
            have hD := hD.sub (ws' := [(h0, .inr (7, [.ref w0, .ref w1, .ref w2, .int wz])), (w0, .inr (0, [.int r_143.1, .int r_143.2.1, .int r_143.2.2.1, .int r_143.2.2.2.1, .int r_143.2.2.2.2])), (w1, .inr (3, [.int r_14.1, .int r_14.2.1, .int r_14.2.2.1, .int r_14.2.2.2.1, .int r_14.2.2.2.2.1, .int r_14.2.2.2.2.2])), (w2, .inr (6, [.ref b0, .int r_142.1, .int r_142.2.1])), (b0, .inl (cC, 6000, .inl r_142.2.2)), (h1, .inr (4, [.ref q0, .ref q1, .ref q2, .ref q3, .ref q4, .ref q5, .int cn])), (q0, .inl (cI, 300, .inl t0)), (q1, .inl (cI, 300, .inl t1)), (q2, .inl (cI, 300, .inl t2)), (q3, .inl (cI, 300, .inl t3)), (q4, .inl (cI, 300, .inl t4)), (q5, .inl (cI, 300, .inl t5))]) [0, 10, 11, 1, 2, 3, 4, 5, 6, 7, 8, 9] (by decide) rfl
            refine lv_iinc (v := (k + 1)) (lv' := [(2, .int (k + 1)), (0, .ref h0), (1, .ref h1)]) hx hb dX7_writeTable_94 hl (k := 2) rfl rfl (by decide) rfl (fun ls hl => ?_)
            refine lv_goto (tgt := 21) hx hb dX7_writeTable_97 (by decide) ?_
            have v_148 : 0 ≤ ((k + 1)).toInt := by
              have q_149 := i_nle c_1
              have k_150 : (0 : Int32).toInt = 0 := by decide
              have q_151 := i_nle c_15
              have q_152 := i_eq c_67
              try have hq9 := hlin k (by omega) (by omega)
              have k_153 : (1 : Int32).toInt = 1 := by decide
              have t_154 := ti_add (a := k) (b := 1) (by omega) (by omega)
              try generalize Int32.toInt (t0 k.toNatClampNeg) = z0 at *
              try generalize Int32.toInt (k + 1) = z1 at *
              try generalize Int32.toInt r_131.1 = z2 at *
              try generalize Int32.toInt r_142.1 = z3 at *
              try generalize Int32.toInt r_14.1 = z4 at *
              try generalize Int32.toInt cn = z5 at *
              try generalize Int32.toInt lz = z6 at *
              try generalize Int32.toInt wz = z7 at *
              try generalize Int32.toInt (0 : Int32) = z8 at *
              try generalize Int32.toInt (1 : Int32) = z9 at *
              try generalize Int32.toInt k = z10 at *
              omega
            have v_155 : ((k + 1)).toInt ≤ cn.toInt := by
              have q_156 := i_nle c_1
              have k_157 : (0 : Int32).toInt = 0 := by decide
              have q_158 := i_nle c_15
              have q_159 := i_eq c_67
              try have hq9 := hlin k (by omega) (by omega)
              have k_160 : (1 : Int32).toInt = 1 := by decide
              have t_161 := ti_add (a := k) (b := 1) (by omega) (by omega)
              try generalize Int32.toInt (t0 k.toNatClampNeg) = z0 at *
              try generalize Int32.toInt (k + 1) = z1 at *
              try generalize Int32.toInt r_131.1 = z2 at *
              try generalize Int32.toInt r_142.1 = z3 at *
              try generalize Int32.toInt r_14.1 = z4 at *
              try generalize Int32.toInt cn = z5 at *
              try generalize Int32.toInt lz = z6 at *
              try generalize Int32.toInt wz = z7 at *
              try generalize Int32.toInt (0 : Int32) = z8 at *
              try generalize Int32.toInt (1 : Int32) = z9 at *
              try generalize Int32.toInt k = z10 at *
              omega
            have v_162 : 0 ≤ r_142.1.toInt := by
              have q_163 := i_nle c_1
              have k_164 : (0 : Int32).toInt = 0 := by decide
              have q_165 := i_nle c_15
              have q_166 := i_eq c_67
              try have hq9 := hlin k (by omega) (by omega)
              try generalize Int32.toInt (t0 k.toNatClampNeg) = z0 at *
              try generalize Int32.toInt r_131.1 = z1 at *
              try generalize Int32.toInt r_142.1 = z2 at *
              try generalize Int32.toInt r_14.1 = z3 at *
              try generalize Int32.toInt cn = z4 at *
              try generalize Int32.toInt lz = z5 at *
              try generalize Int32.toInt wz = z6 at *
              try generalize Int32.toInt (0 : Int32) = z7 at *
              try generalize Int32.toInt k = z8 at *
              omega
            have v_167 : r_142.1.toInt ≤ 6000 := by
              have q_168 := i_nle c_1
              have k_169 : (0 : Int32).toInt = 0 := by decide
              have q_170 := i_nle c_15
              have q_171 := i_eq c_67
              try have hq9 := hlin k (by omega) (by omega)
              try generalize Int32.toInt (t0 k.toNatClampNeg) = z0 at *
              try generalize Int32.toInt r_131.1 = z1 at *
              try generalize Int32.toInt r_142.1 = z2 at *
              try generalize Int32.toInt r_14.1 = z3 at *
              try generalize Int32.toInt cn = z4 at *
              try generalize Int32.toInt lz = z5 at *
              try generalize Int32.toInt wz = z6 at *
              try generalize Int32.toInt (0 : Int32) = z7 at *
              try generalize Int32.toInt k = z8 at *
              omega
            have v_172 : 0 ≤ wz.toInt := by
              have q_173 := i_nle c_1
              have k_174 : (0 : Int32).toInt = 0 := by decide
              have q_175 := i_nle c_15
              have q_176 := i_eq c_67
              try have hq9 := hlin k (by omega) (by omega)
              try generalize Int32.toInt (t0 k.toNatClampNeg) = z0 at *
              try generalize Int32.toInt r_131.1 = z1 at *
              try generalize Int32.toInt r_142.1 = z2 at *
              try generalize Int32.toInt r_14.1 = z3 at *
              try generalize Int32.toInt cn = z4 at *
              try generalize Int32.toInt lz = z5 at *
              try generalize Int32.toInt wz = z6 at *
              try generalize Int32.toInt (0 : Int32) = z7 at *
              try generalize Int32.toInt k = z8 at *
              omega
            have v_177 : cn.toInt - ((k + 1)).toInt < ((n : Nat) : Int) := by
              have q_178 := i_nle c_1
              have k_179 : (0 : Int32).toInt = 0 := by decide
              have q_180 := i_nle c_15
              have q_181 := i_eq c_67
              try have hq9 := hlin k (by omega) (by omega)
              have k_182 : (1 : Int32).toInt = 1 := by decide
              have t_183 := ti_add (a := k) (b := 1) (by omega) (by omega)
              try generalize Int32.toInt (t0 k.toNatClampNeg) = z0 at *
              try generalize Int32.toInt (k + 1) = z1 at *
              try generalize Int32.toInt r_131.1 = z2 at *
              try generalize Int32.toInt r_142.1 = z3 at *
              try generalize Int32.toInt r_14.1 = z4 at *
              try generalize Int32.toInt cn = z5 at *
              try generalize Int32.toInt lz = z6 at *
              try generalize Int32.toInt wz = z7 at *
              try generalize Int32.toInt (0 : Int32) = z8 at *
              try generalize Int32.toInt (1 : Int32) = z9 at *
              try generalize Int32.toInt k = z10 at *
              omega
            exact ih ((k + 1)) (wz) (r_143.1) (r_143.2.1) (r_143.2.2.1) (r_143.2.2.2.1) (r_143.2.2.2.2) (r_14.1) (r_14.2.1) (r_14.2.2.1) (r_14.2.2.2.1) (r_14.2.2.2.2.1) (r_14.2.2.2.2.2) (r_142.1) (r_142.2.1) (r_142.2.2) _ _ ls hR v_148 v_155 v_162 v_167 v_172 v_177 hP hD hS (lv_sub hl [1, 2, 0] rfl)
  refine lv_aload_n hx hb dX7_writeTable_0 rfl (lv_at hl 0 rfl) ?_
  refine va_get (D := (dC, dI)) (ci := 7) (v := .ref w2) (C := RX7) (T := TX7) (N := 4) hx hb hts inc_X7_writeTable_7 hown hG.1 hP 0 rfl rfl 2 (by decide) (hts (.fieldLink RX7 26 "MappingDesk$Writer" "made" "LMappingDesk$Text;") (by decide +kernel)) (fun _ h9 => h9) rfl dX7_writeTable_1 ?_
  have hPc := hP.sub (ws' := [(w2, .inr (6, [.ref b0, .int ln, .int ov])), (b0, .inl (cC, 6000, .inl ch))]) [3, 4] rfl
  have hDc := hD.sub (ws' := [(w2, .inr (6, [.ref b0, .int ln, .int ov])), (b0, .inl (cC, 6000, .inl ch))]) [3, 4] (by decide) rfl
  have hFc := va_free (wc := [(w2, .inr (6, [.ref b0, .int ln, .int ov])), (b0, .inl (cC, 6000, .inl ch))]) hD hS hA [3, 4] rfl
  refine va_callv (va_runVN (C := RX6) (As := []) (rest := []) ⟨hx, hb, hml, hown, hts⟩ (c_X6_makeEmpty l dC dI cB cC cI cJ H.size w2 b0 ch ln ov ) ⟨va_cnB 0 hts gX7_writeTable_X6_makeEmpty_n30 rfl rfl rfl (hG.nm (A := #[]) (w := .methodLinkNest RX7 30 yX6_makeEmpty "MappingDesk") (by decide +kernel)) (hts (.initialized RX6) (by decide +kernel)) (by decide +kernel) ⟨(Nat.le_of_ble_eq_true rfl), (Nat.le_of_ble_eq_true rfl)⟩, hts (.instanceMethod yX6_makeEmpty) (by decide +kernel), hts (.selects RX6 yX6_makeEmpty yX6_makeEmpty) (by decide +kernel)⟩ ⟨cP_blind, va_recv hG.1 hPc (ci := 6) (q0 := 0) rfl rfl, cP_pre hPc hG hDc⟩ rfl rfl hl.1 rfl (lv_room (Nat.le_of_ble_eq_true rfl)) dX7_writeTable_4 ⟨Nat.le_of_ble_eq_true rfl, Nat.le_of_ble_eq_true rfl⟩) hS (fun q _ h => hFc q h) hFc (fun u t H1 locs ht hvm hw hB hz1 hk1 hS => ?_)
  obtain ⟨hP1, hD1⟩ := hB
  rw [ht] at hP1
  generalize hr_184 : fX6_makeEmpty ch ln ov = r_184 at hP1 hD1 hw
  have er_184_0 := hw
  rw [bnd_eq hr_184] at hR
  obtain ⟨hP, hD⟩ := va_join (wr := [(h0, .inr (7, [.ref w0, .ref w1, .ref w2, .int wl])), (w0, .inr (0, [.int a0, .int a1, .int a2, .int a3, .int a4])), (w1, .inr (3, [.int g0, .int g1, .int g2, .int g3, .int g4, .int g5])), (h1, .inr (4, [.ref q0, .ref q1, .ref q2, .ref q3, .ref q4, .ref q5, .int cn])), (q0, .inl (cI, 300, .inl t0)), (q1, .inl (cI, 300, .inl t1)), (q2, .inl (cI, 300, .inl t2)), (q3, .inl (cI, 300, .inl t3)), (q4, .inl (cI, 300, .inl t4)), (q5, .inl (cI, 300, .inl t5))]) (w1 := [(w2, .inr (6, [.ref b0, .int r_184.1, .int r_184.2])), (b0, .inl (cC, 6000, .inl ch))]) hP hD [3, 4] [0, 1, 2, 5, 6, 7, 8, 9, 10, 11] rfl rfl (by decide) (by decide) hk1 hFc hP1 hD1
  generalize H1 = H at hP hS ⊢
  have hP := hP.sub (ws' := [(h0, .inr (7, [.ref w0, .ref w1, .ref w2, .int wl])), (w0, .inr (0, [.int a0, .int a1, .int a2, .int a3, .int a4])), (w1, .inr (3, [.int g0, .int g1, .int g2, .int g3, .int g4, .int g5])), (w2, .inr (6, [.ref b0, .int r_184.1, .int r_184.2])), (b0, .inl (cC, 6000, .inl ch)), (h1, .inr (4, [.ref q0, .ref q1, .ref q2, .ref q3, .ref q4, .ref q5, .int cn])), (q0, .inl (cI, 300, .inl t0)), (q1, .inl (cI, 300, .inl t1)), (q2, .inl (cI, 300, .inl t2)), (q3, .inl (cI, 300, .inl t3)), (q4, .inl (cI, 300, .inl t4)), (q5, .inl (cI, 300, .inl t5))]) [0, 1, 2, 10, 11, 3, 4, 5, 6, 7, 8, 9] rfl
  have hD := hD.sub (ws' := [(h0, .inr (7, [.ref w0, .ref w1, .ref w2, .int wl])), (w0, .inr (0, [.int a0, .int a1, .int a2, .int a3, .int a4])), (w1, .inr (3, [.int g0, .int g1, .int g2, .int g3, .int g4, .int g5])), (w2, .inr (6, [.ref b0, .int r_184.1, .int r_184.2])), (b0, .inl (cC, 6000, .inl ch)), (h1, .inr (4, [.ref q0, .ref q1, .ref q2, .ref q3, .ref q4, .ref q5, .int cn])), (q0, .inl (cI, 300, .inl t0)), (q1, .inl (cI, 300, .inl t1)), (q2, .inl (cI, 300, .inl t2)), (q3, .inl (cI, 300, .inl t3)), (q4, .inl (cI, 300, .inl t4)), (q5, .inl (cI, 300, .inl t5))]) [0, 1, 2, 10, 11, 3, 4, 5, 6, 7, 8, 9] (by decide) rfl
  refine lv_aload_n hx hb dX7_writeTable_7 rfl (lv_at hl 0 rfl) ?_
  refine va_get (D := (dC, dI)) (ci := 7) (v := .ref w0) (C := RX7) (T := TX7) (N := 4) hx hb hts inc_X7_writeTable_7 hown hG.1 hP 0 rfl rfl 0 (by decide) (hts (.fieldLink RX7 10 "MappingDesk$Writer" "ahead" "LMappingDesk$Ahead;") (by decide +kernel)) (fun _ h9 => h9) rfl dX7_writeTable_8 ?_
  have hPc := hP.sub (ws' := [(w0, .inr (0, [.int a0, .int a1, .int a2, .int a3, .int a4]))]) [1] rfl
  have hDc := hD.sub (ws' := [(w0, .inr (0, [.int a0, .int a1, .int a2, .int a3, .int a4]))]) [1] (by decide) rfl
  have hFc := va_free (wc := [(w0, .inr (0, [.int a0, .int a1, .int a2, .int a3, .int a4]))]) hD hS hA [1] rfl
  refine va_callv (va_runVN (C := RX0) (As := []) (rest := []) ⟨hx, hb, hml, hown, hts⟩ (c_X0_startText l dC dI cB cC cI cJ H.size w0 a0 a1 a2 a3 a4 ) ⟨va_cnB 0 hts gX7_writeTable_X0_startText_n33 rfl rfl rfl (hG.nm (A := #[]) (w := .methodLinkNest RX7 33 yX0_startText "MappingDesk") (by decide +kernel)) (hts (.initialized RX0) (by decide +kernel)) (by decide +kernel) ⟨(Nat.le_of_ble_eq_true rfl), (Nat.le_of_ble_eq_true rfl)⟩, hts (.instanceMethod yX0_startText) (by decide +kernel), hts (.selects RX0 yX0_startText yX0_startText) (by decide +kernel)⟩ ⟨cP_blind, va_recv hG.1 hPc (ci := 0) (q0 := 0) rfl rfl, cP_pre hPc hG hDc⟩ rfl rfl hl.1 rfl (lv_room (Nat.le_of_ble_eq_true rfl)) dX7_writeTable_11 ⟨Nat.le_of_ble_eq_true rfl, Nat.le_of_ble_eq_true rfl⟩) hS (fun q _ h => hFc q h) hFc (fun u t H1 locs ht hvm hw hB hz1 hk1 hS => ?_)
  obtain ⟨hP1, hD1⟩ := hB
  rw [ht] at hP1
  generalize hr_185 : fX0_startText a0 a1 a2 a3 a4 = r_185 at hP1 hD1
  rw [bnd_eq hr_185] at hR
  obtain ⟨hP, hD⟩ := va_join (wr := [(h0, .inr (7, [.ref w0, .ref w1, .ref w2, .int wl])), (w1, .inr (3, [.int g0, .int g1, .int g2, .int g3, .int g4, .int g5])), (w2, .inr (6, [.ref b0, .int r_184.1, .int r_184.2])), (b0, .inl (cC, 6000, .inl ch)), (h1, .inr (4, [.ref q0, .ref q1, .ref q2, .ref q3, .ref q4, .ref q5, .int cn])), (q0, .inl (cI, 300, .inl t0)), (q1, .inl (cI, 300, .inl t1)), (q2, .inl (cI, 300, .inl t2)), (q3, .inl (cI, 300, .inl t3)), (q4, .inl (cI, 300, .inl t4)), (q5, .inl (cI, 300, .inl t5))]) (w1 := [(w0, .inr (0, [.int r_185.1, .int r_185.2.1, .int r_185.2.2.1, .int r_185.2.2.2.1, .int r_185.2.2.2.2]))]) hP hD [1] [0, 2, 3, 4, 5, 6, 7, 8, 9, 10, 11] rfl rfl (by decide) (by decide) hk1 hFc hP1 hD1
  generalize H1 = H at hP hS ⊢
  have hP := hP.sub (ws' := [(h0, .inr (7, [.ref w0, .ref w1, .ref w2, .int wl])), (w0, .inr (0, [.int r_185.1, .int r_185.2.1, .int r_185.2.2.1, .int r_185.2.2.2.1, .int r_185.2.2.2.2])), (w1, .inr (3, [.int g0, .int g1, .int g2, .int g3, .int g4, .int g5])), (w2, .inr (6, [.ref b0, .int r_184.1, .int r_184.2])), (b0, .inl (cC, 6000, .inl ch)), (h1, .inr (4, [.ref q0, .ref q1, .ref q2, .ref q3, .ref q4, .ref q5, .int cn])), (q0, .inl (cI, 300, .inl t0)), (q1, .inl (cI, 300, .inl t1)), (q2, .inl (cI, 300, .inl t2)), (q3, .inl (cI, 300, .inl t3)), (q4, .inl (cI, 300, .inl t4)), (q5, .inl (cI, 300, .inl t5))]) [0, 11, 1, 2, 3, 4, 5, 6, 7, 8, 9, 10] rfl
  have hD := hD.sub (ws' := [(h0, .inr (7, [.ref w0, .ref w1, .ref w2, .int wl])), (w0, .inr (0, [.int r_185.1, .int r_185.2.1, .int r_185.2.2.1, .int r_185.2.2.2.1, .int r_185.2.2.2.2])), (w1, .inr (3, [.int g0, .int g1, .int g2, .int g3, .int g4, .int g5])), (w2, .inr (6, [.ref b0, .int r_184.1, .int r_184.2])), (b0, .inl (cC, 6000, .inl ch)), (h1, .inr (4, [.ref q0, .ref q1, .ref q2, .ref q3, .ref q4, .ref q5, .int cn])), (q0, .inl (cI, 300, .inl t0)), (q1, .inl (cI, 300, .inl t1)), (q2, .inl (cI, 300, .inl t2)), (q3, .inl (cI, 300, .inl t3)), (q4, .inl (cI, 300, .inl t4)), (q5, .inl (cI, 300, .inl t5))]) [0, 11, 1, 2, 3, 4, 5, 6, 7, 8, 9, 10] (by decide) rfl
  refine lv_aload_n hx hb dX7_writeTable_14 rfl (lv_at hl 0 rfl) ?_
  refine lv_iconst (v := 0) hx hb dX7_writeTable_15 (by decide) ?_
  refine va_put (D := (dC, dI)) (ci := 7) (v := .int 0) (ty := .int) (C := RX7) (T := TX7) (N := 4) hx hb hts inc_X7_writeTable_7 tyX7 tyX7_ok nmX7 hown hG.1 hP hD hS 0 rfl rfl 3 (by decide) (hts (.fieldLink RX7 36 "MappingDesk$Writer" "line" "I") (by decide +kernel)) (fun _ h9 => h9) rfl (by decide +kernel) rfl rfl (Nat.le_of_ble_eq_true rfl) dX7_writeTable_16 (fun H locs hP hD hS => ?_)
  have hP : va_P (dC, dI) vwCl [(h0, .inr (7, [.ref w0, .ref w1, .ref w2, .int 0])), (w0, .inr (0, [.int r_185.1, .int r_185.2.1, .int r_185.2.2.1, .int r_185.2.2.2.1, .int r_185.2.2.2.2])), (w1, .inr (3, [.int g0, .int g1, .int g2, .int g3, .int g4, .int g5])), (w2, .inr (6, [.ref b0, .int r_184.1, .int r_184.2])), (b0, .inl (cC, 6000, .inl ch)), (h1, .inr (4, [.ref q0, .ref q1, .ref q2, .ref q3, .ref q4, .ref q5, .int cn])), (q0, .inl (cI, 300, .inl t0)), (q1, .inl (cI, 300, .inl t1)), (q2, .inl (cI, 300, .inl t2)), (q3, .inl (cI, 300, .inl t3)), (q4, .inl (cI, 300, .inl t4)), (q5, .inl (cI, 300, .inl t5))] H := hP
  have hD : va_D A [(h0, .inr (7, [.ref w0, .ref w1, .ref w2, .int 0])), (w0, .inr (0, [.int r_185.1, .int r_185.2.1, .int r_185.2.2.1, .int r_185.2.2.2.1, .int r_185.2.2.2.2])), (w1, .inr (3, [.int g0, .int g1, .int g2, .int g3, .int g4, .int g5])), (w2, .inr (6, [.ref b0, .int r_184.1, .int r_184.2])), (b0, .inl (cC, 6000, .inl ch)), (h1, .inr (4, [.ref q0, .ref q1, .ref q2, .ref q3, .ref q4, .ref q5, .int cn])), (q0, .inl (cI, 300, .inl t0)), (q1, .inl (cI, 300, .inl t1)), (q2, .inl (cI, 300, .inl t2)), (q3, .inl (cI, 300, .inl t3)), (q4, .inl (cI, 300, .inl t4)), (q5, .inl (cI, 300, .inl t5))] := hD
  refine lv_iconst (v := 0) hx hb dX7_writeTable_19 (by decide) ?_
  refine lv_istore_n (lv' := [(2, .int 0), (0, .ref h0), (1, .ref h1)]) hx hb dX7_writeTable_20 rfl hl (by decide) rfl (fun ls hl => ?_)
  have v_186 : 0 ≤ (0 : Int32).toInt := by
    try have hq9 := hlin k (by omega) (by omega)
    have k_187 : (0 : Int32).toInt = 0 := by decide
    try generalize Int32.toInt (t0 k.toNatClampNeg) = z0 at *
    try generalize Int32.toInt r_184.1 = z1 at *
    try generalize Int32.toInt cn = z2 at *
    try generalize Int32.toInt (0 : Int32) = z3 at *
    try generalize Int32.toInt k = z4 at *
    omega
  have v_188 : (0 : Int32).toInt ≤ cn.toInt := by
    try have hq9 := hlin k (by omega) (by omega)
    have k_189 : (0 : Int32).toInt = 0 := by decide
    try generalize Int32.toInt (t0 k.toNatClampNeg) = z0 at *
    try generalize Int32.toInt r_184.1 = z1 at *
    try generalize Int32.toInt cn = z2 at *
    try generalize Int32.toInt (0 : Int32) = z3 at *
    try generalize Int32.toInt k = z4 at *
    omega
  have v_190 : 0 ≤ r_184.1.toInt := by
    try have hq9 := hlin k (by omega) (by omega)
    try generalize Int32.toInt (t0 k.toNatClampNeg) = z0 at *
    try generalize Int32.toInt r_184.1 = z1 at *
    try generalize Int32.toInt cn = z2 at *
    try generalize Int32.toInt k = z3 at *
    omega
  have v_191 : r_184.1.toInt ≤ 6000 := by
    try have hq9 := hlin k (by omega) (by omega)
    try generalize Int32.toInt (t0 k.toNatClampNeg) = z0 at *
    try generalize Int32.toInt r_184.1 = z1 at *
    try generalize Int32.toInt cn = z2 at *
    try generalize Int32.toInt k = z3 at *
    omega
  have v_192 : 0 ≤ (0 : Int32).toInt := by
    try have hq9 := hlin k (by omega) (by omega)
    have k_193 : (0 : Int32).toInt = 0 := by decide
    try generalize Int32.toInt (t0 k.toNatClampNeg) = z0 at *
    try generalize Int32.toInt r_184.1 = z1 at *
    try generalize Int32.toInt cn = z2 at *
    try generalize Int32.toInt (0 : Int32) = z3 at *
    try generalize Int32.toInt k = z4 at *
    omega
  have v_194 : cn.toInt - (0 : Int32).toInt < ((301 : Nat) : Int) := by
    try have hq9 := hlin k (by omega) (by omega)
    have k_195 : (0 : Int32).toInt = 0 := by decide
    try generalize Int32.toInt (t0 k.toNatClampNeg) = z0 at *
    try generalize Int32.toInt r_184.1 = z1 at *
    try generalize Int32.toInt cn = z2 at *
    try generalize Int32.toInt (0 : Int32) = z3 at *
    try generalize Int32.toInt k = z4 at *
    omega
  exact loop_21 301 (0) (0) (r_185.1) (r_185.2.1) (r_185.2.2.1) (r_185.2.2.2.1) (r_185.2.2.2.2) (g0) (g1) (g2) (g3) (g4) (g5) (r_184.1) (r_184.2) (ch) _ _ ls hR v_186 v_188 v_190 v_191 v_192 v_194 hP hD hS (lv_sub hl [1, 2, 0] rfl)
