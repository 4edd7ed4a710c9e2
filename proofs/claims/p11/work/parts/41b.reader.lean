def fX2_takeCharacter (nc ss ib li ff fp : Int32) (n0 n1 : Int32) (n2 : Int64) (n3 n4 : Int32) (nb : Nat → Int64) (a0 a1 a2 a3 a4 : Int32) (g0 g1 g2 g3 g4 g5 : Int32) (cn : Int32) (t0 t1 t2 t3 t4 t5 : Nat → Int32) (x y : Int32) : Int32 × Int32 × Int32 × Int32 × Int32 × Int32 × Int32 × Int32 × Int64 × Int32 × Int32 × (Nat → Int64) × Int32 × Int32 × Int32 × Int32 × Int32 × Int32 × Int32 × Int32 × Int32 × Int32 × Int32 × Int32 × (Nat → Int32) × (Nat → Int32) × (Nat → Int32) × (Nat → Int32) × (Nat → Int32) × (Nat → Int32) :=
  bnd (fJ0_indexOf_0f7a4 x) fun r_1 =>
  if r_1 < 0 then
    if x = 44 then
      bnd (fX2_endSegment nc ss ib li ff fp n0 n1 n2 n3 n4 nb a0 a1 a2 a3 a4 g0 g1 g2 g3 g4 g5 cn t0 t1 t2 t3 t4 t5 1 y) fun r_40 =>
      (r_40.1, ss, 1, li, r_40.2.1, r_40.2.2.1, n0, n1, n2, n3, n4, nb, r_40.2.2.2.1, r_40.2.2.2.2.1, r_40.2.2.2.2.2.1, r_40.2.2.2.2.2.2.1, r_40.2.2.2.2.2.2.2.1, r_40.2.2.2.2.2.2.2.2.1, r_40.2.2.2.2.2.2.2.2.2.1, r_40.2.2.2.2.2.2.2.2.2.2.1, r_40.2.2.2.2.2.2.2.2.2.2.2.1, r_40.2.2.2.2.2.2.2.2.2.2.2.2.1, r_40.2.2.2.2.2.2.2.2.2.2.2.2.2.1, r_40.2.2.2.2.2.2.2.2.2.2.2.2.2.2.1, r_40.2.2.2.2.2.2.2.2.2.2.2.2.2.2.2.1, r_40.2.2.2.2.2.2.2.2.2.2.2.2.2.2.2.2.1, r_40.2.2.2.2.2.2.2.2.2.2.2.2.2.2.2.2.2.1, r_40.2.2.2.2.2.2.2.2.2.2.2.2.2.2.2.2.2.2.1, r_40.2.2.2.2.2.2.2.2.2.2.2.2.2.2.2.2.2.2.2.1, r_40.2.2.2.2.2.2.2.2.2.2.2.2.2.2.2.2.2.2.2.2)
    else
      if x = 59 then
        bnd (fX2_endSegment nc ss ib li ff fp n0 n1 n2 n3 n4 nb a0 a1 a2 a3 a4 g0 g1 g2 g3 g4 g5 cn t0 t1 t2 t3 t4 t5 0 y) fun r_22 =>
        bnd (fX2_startLine r_22.1 ss 0 li r_22.2.1 r_22.2.2.1 r_22.2.2.2.1 r_22.2.2.2.2.1 r_22.2.2.2.2.2.1 r_22.2.2.2.2.2.2.1 r_22.2.2.2.2.2.2.2.1 y) fun r_23 =>
        (r_22.1, ss, 0, r_23.1, r_23.2.1, r_23.2.2.1, n0, n1, n2, n3, n4, nb, r_23.2.2.2, r_22.2.2.2.2.1, r_22.2.2.2.2.2.1, r_22.2.2.2.2.2.2.1, r_22.2.2.2.2.2.2.2.1, r_22.2.2.2.2.2.2.2.2.1, r_22.2.2.2.2.2.2.2.2.2.1, r_22.2.2.2.2.2.2.2.2.2.2.1, r_22.2.2.2.2.2.2.2.2.2.2.2.1, r_22.2.2.2.2.2.2.2.2.2.2.2.2.1, r_22.2.2.2.2.2.2.2.2.2.2.2.2.2.1, r_22.2.2.2.2.2.2.2.2.2.2.2.2.2.2.1, r_22.2.2.2.2.2.2.2.2.2.2.2.2.2.2.2.1, r_22.2.2.2.2.2.2.2.2.2.2.2.2.2.2.2.2.1, r_22.2.2.2.2.2.2.2.2.2.2.2.2.2.2.2.2.2.1, r_22.2.2.2.2.2.2.2.2.2.2.2.2.2.2.2.2.2.2.1, r_22.2.2.2.2.2.2.2.2.2.2.2.2.2.2.2.2.2.2.2.1, r_22.2.2.2.2.2.2.2.2.2.2.2.2.2.2.2.2.2.2.2.2)
      else
        bnd (fX2_refuse nc ss ib li ff fp 1 y) fun r_5 =>
        (nc, ss, ib, li, r_5.1, r_5.2, n0, n1, n2, n3, n4, nb, a0, a1, a2, a3, a4, g0, g1, g2, g3, g4, g5, cn, t0, t1, t2, t3, t4, t5)
  else
    bnd (fX2_takeDigit nc ss ib li ff fp n0 n1 n2 n3 n4 nb r_1 y) fun r_55 =>
    (r_55.1, r_55.2.1, ib, li, r_55.2.2.1, r_55.2.2.2.1, r_55.2.2.2.2.1, r_55.2.2.2.2.2.1, r_55.2.2.2.2.2.2.1, r_55.2.2.2.2.2.2.2.1, r_55.2.2.2.2.2.2.2.2.1, r_55.2.2.2.2.2.2.2.2.2, a0, a1, a2, a3, a4, g0, g1, g2, g3, g4, g5, cn, t0, t1, t2, t3, t4, t5)
theorem inc_X2_takeCharacter_2 : ∀ w ∈ u_ws RX2 TX2 11, w ∈ wsX2_takeCharacter := by decide +kernel
set_option maxHeartbeats 4000000 in
set_option maxRecDepth 100000 in
theorem c_X2_takeCharacter (l : Launch) (dC : Nat → ClassId) (dI : Nat → Nat → Nat) (cB cC cI cJ : ClassId) (ak av sz : Nat) (h0 r0 r1 r2 r3 r4 q0 q1 q2 q3 q4 q5 : Nat) (nc ss ib li ff fp : Int32) (n0 n1 : Int32) (n2 : Int64) (n3 n4 : Int32) (nb : Nat → Int64) (a0 a1 a2 a3 a4 : Int32) (g0 g1 g2 g3 g4 g5 : Int32) (cn : Int32) (t0 t1 t2 t3 t4 t5 : Nat → Int32) (x y : Int32) (hn0 : 0 ≤ cn.toInt) (hn1 : cn.toInt ≤ 300) (hc0 : 0 ≤ nc.toInt) (hc1 : nc.toInt ≤ 2999) : Met l yX2_takeCharacter wsX2_takeCharacter ({ frames := 5, cells := 0, slots := 0, locals := 126 } : Room) (cPs dC dI cB cC cI cJ ak av [.ref h0, .int x, .int y] sz [(h0, .inr (2, [.ref r0, .ref r1, .ref r2, .ref r3, .ref r4, .int nc, .int ss, .int ib, .int li, .int ff, .int fp])), (r0, .inr (1, [.int n0, .int n1, .long n2, .int n3, .int n4])), (r1, .inl (cJ, 5, .inr (.inl nb))), (r2, .inr (0, [.int a0, .int a1, .int a2, .int a3, .int a4])), (r3, .inr (3, [.int g0, .int g1, .int g2, .int g3, .int g4, .int g5])), (r4, .inr (4, [.ref q0, .ref q1, .ref q2, .ref q3, .ref q4, .ref q5, .int cn])), (q0, .inl (cI, 300, .inl t0)), (q1, .inl (cI, 300, .inl t1)), (q2, .inl (cI, 300, .inl t2)), (q3, .inl (cI, 300, .inl t3)), (q4, .inl (cI, 300, .inl t4)), (q5, .inl (cI, 300, .inl t5))]) (va_Qv (fun _ => (0 ≤ (fX2_takeCharacter nc ss ib li ff fp n0 n1 n2 n3 n4 nb a0 a1 a2 a3 a4 g0 g1 g2 g3 g4 g5 cn t0 t1 t2 t3 t4 t5 x y).2.2.2.2.2.2.2.2.2.2.2.2.2.2.2.2.2.2.2.2.2.2.2.1.toInt ∧ (fX2_takeCharacter nc ss ib li ff fp n0 n1 n2 n3 n4 nb a0 a1 a2 a3 a4 g0 g1 g2 g3 g4 g5 cn t0 t1 t2 t3 t4 t5 x y).2.2.2.2.2.2.2.2.2.2.2.2.2.2.2.2.2.2.2.2.2.2.2.1.toInt ≤ 300) ∧ (0 ≤ (fX2_takeCharacter nc ss ib li ff fp n0 n1 n2 n3 n4 nb a0 a1 a2 a3 a4 g0 g1 g2 g3 g4 g5 cn t0 t1 t2 t3 t4 t5 x y).1.toInt ∧ (fX2_takeCharacter nc ss ib li ff fp n0 n1 n2 n3 n4 nb a0 a1 a2 a3 a4 g0 g1 g2 g3 g4 g5 cn t0 t1 t2 t3 t4 t5 x y).1.toInt ≤ nc.toInt + 1)) (cE dC dI (va_A [(h0, .inr (2, [.ref r0, .ref r1, .ref r2, .ref r3, .ref r4, .int nc, .int ss, .int ib, .int li, .int ff, .int fp])), (r0, .inr (1, [.int n0, .int n1, .long n2, .int n3, .int n4])), (r1, .inl (cJ, 5, .inr (.inl nb))), (r2, .inr (0, [.int a0, .int a1, .int a2, .int a3, .int a4])), (r3, .inr (3, [.int g0, .int g1, .int g2, .int g3, .int g4, .int g5])), (r4, .inr (4, [.ref q0, .ref q1, .ref q2, .ref q3, .ref q4, .ref q5, .int cn])), (q0, .inl (cI, 300, .inl t0)), (q1, .inl (cI, 300, .inl t1)), (q2, .inl (cI, 300, .inl t2)), (q3, .inl (cI, 300, .inl t3)), (q4, .inl (cI, 300, .inl t4)), (q5, .inl (cI, 300, .inl t5))] sz) [(h0, .inr (2, [.ref r0, .ref r1, .ref r2, .ref r3, .ref r4, .int (fX2_takeCharacter nc ss ib li ff fp n0 n1 n2 n3 n4 nb a0 a1 a2 a3 a4 g0 g1 g2 g3 g4 g5 cn t0 t1 t2 t3 t4 t5 x y).1, .int (fX2_takeCharacter nc ss ib li ff fp n0 n1 n2 n3 n4 nb a0 a1 a2 a3 a4 g0 g1 g2 g3 g4 g5 cn t0 t1 t2 t3 t4 t5 x y).2.1, .int (fX2_takeCharacter nc ss ib li ff fp n0 n1 n2 n3 n4 nb a0 a1 a2 a3 a4 g0 g1 g2 g3 g4 g5 cn t0 t1 t2 t3 t4 t5 x y).2.2.1, .int (fX2_takeCharacter nc ss ib li ff fp n0 n1 n2 n3 n4 nb a0 a1 a2 a3 a4 g0 g1 g2 g3 g4 g5 cn t0 t1 t2 t3 t4 t5 x y).2.2.2.1, .int (fX2_takeCharacter nc ss ib li ff fp n0 n1 n2 n3 n4 nb a0 a1 a2 a3 a4 g0 g1 g2 g3 g4 g5 cn t0 t1 t2 t3 t4 t5 x y).2.2.2.2.1, .int (fX2_takeCharacter nc ss ib li ff fp n0 n1 n2 n3 n4 nb a0 a1 a2 a3 a4 g0 g1 g2 g3 g4 g5 cn t0 t1 t2 t3 t4 t5 x y).2.2.2.2.2.1])), (r0, .inr (1, [.int (fX2_takeCharacter nc ss ib li ff fp n0 n1 n2 n3 n4 nb a0 a1 a2 a3 a4 g0 g1 g2 g3 g4 g5 cn t0 t1 t2 t3 t4 t5 x y).2.2.2.2.2.2.1, .int (fX2_takeCharacter nc ss ib li ff fp n0 n1 n2 n3 n4 nb a0 a1 a2 a3 a4 g0 g1 g2 g3 g4 g5 cn t0 t1 t2 t3 t4 t5 x y).2.2.2.2.2.2.2.1, .long (fX2_takeCharacter nc ss ib li ff fp n0 n1 n2 n3 n4 nb a0 a1 a2 a3 a4 g0 g1 g2 g3 g4 g5 cn t0 t1 t2 t3 t4 t5 x y).2.2.2.2.2.2.2.2.1, .int (fX2_takeCharacter nc ss ib li ff fp n0 n1 n2 n3 n4 nb a0 a1 a2 a3 a4 g0 g1 g2 g3 g4 g5 cn t0 t1 t2 t3 t4 t5 x y).2.2.2.2.2.2.2.2.2.1, .int (fX2_takeCharacter nc ss ib li ff fp n0 n1 n2 n3 n4 nb a0 a1 a2 a3 a4 g0 g1 g2 g3 g4 g5 cn t0 t1 t2 t3 t4 t5 x y).2.2.2.2.2.2.2.2.2.2.1])), (r1, .inl (cJ, 5, .inr (.inl (fX2_takeCharacter nc ss ib li ff fp n0 n1 n2 n3 n4 nb a0 a1 a2 a3 a4 g0 g1 g2 g3 g4 g5 cn t0 t1 t2 t3 t4 t5 x y).2.2.2.2.2.2.2.2.2.2.2.1))), (r2, .inr (0, [.int (fX2_takeCharacter nc ss ib li ff fp n0 n1 n2 n3 n4 nb a0 a1 a2 a3 a4 g0 g1 g2 g3 g4 g5 cn t0 t1 t2 t3 t4 t5 x y).2.2.2.2.2.2.2.2.2.2.2.2.1, .int (fX2_takeCharacter nc ss ib li ff fp n0 n1 n2 n3 n4 nb a0 a1 a2 a3 a4 g0 g1 g2 g3 g4 g5 cn t0 t1 t2 t3 t4 t5 x y).2.2.2.2.2.2.2.2.2.2.2.2.2.1, .int (fX2_takeCharacter nc ss ib li ff fp n0 n1 n2 n3 n4 nb a0 a1 a2 a3 a4 g0 g1 g2 g3 g4 g5 cn t0 t1 t2 t3 t4 t5 x y).2.2.2.2.2.2.2.2.2.2.2.2.2.2.1, .int (fX2_takeCharacter nc ss ib li ff fp n0 n1 n2 n3 n4 nb a0 a1 a2 a3 a4 g0 g1 g2 g3 g4 g5 cn t0 t1 t2 t3 t4 t5 x y).2.2.2.2.2.2.2.2.2.2.2.2.2.2.2.1, .int (fX2_takeCharacter nc ss ib li ff fp n0 n1 n2 n3 n4 nb a0 a1 a2 a3 a4 g0 g1 g2 g3 g4 g5 cn t0 t1 t2 t3 t4 t5 x y).2.2.2.2.2.2.2.2.2.2.2.2.2.2.2.2.1])), (r3, .inr (3, [.int (fX2_takeCharacter nc ss ib li ff fp n0 n1 n2 n3 n4 nb a0 a1 a2 a3 a4 g0 g1 g2 g3 g4 g5 cn t0 t1 t2 t3 t4 t5 x y).2.2.2.2.2.2.2.2.2.2.2.2.2.2.2.2.2.1, .int (fX2_takeCharacter nc ss ib li ff fp n0 n1 n2 n3 n4 nb a0 a1 a2 a3 a4 g0 g1 g2 g3 g4 g5 cn t0 t1 t2 t3 t4 t5 x y).2.2.2.2.2.2.2.2.2.2.2.2.2.2.2.2.2.2.1, .int (fX2_takeCharacter nc ss ib li ff fp n0 n1 n2 n3 n4 nb a0 a1 a2 a3 a4 g0 g1 g2 g3 g4 g5 cn t0 t1 t2 t3 t4 t5 x y).2.2.2.2.2.2.2.2.2.2.2.2.2.2.2.2.2.2.2.1, .int (fX2_takeCharacter nc ss ib li ff fp n0 n1 n2 n3 n4 nb a0 a1 a2 a3 a4 g0 g1 g2 g3 g4 g5 cn t0 t1 t2 t3 t4 t5 x y).2.2.2.2.2.2.2.2.2.2.2.2.2.2.2.2.2.2.2.2.1, .int (fX2_takeCharacter nc ss ib li ff fp n0 n1 n2 n3 n4 nb a0 a1 a2 a3 a4 g0 g1 g2 g3 g4 g5 cn t0 t1 t2 t3 t4 t5 x y).2.2.2.2.2.2.2.2.2.2.2.2.2.2.2.2.2.2.2.2.2.1, .int (fX2_takeCharacter nc ss ib li ff fp n0 n1 n2 n3 n4 nb a0 a1 a2 a3 a4 g0 g1 g2 g3 g4 g5 cn t0 t1 t2 t3 t4 t5 x y).2.2.2.2.2.2.2.2.2.2.2.2.2.2.2.2.2.2.2.2.2.2.1])), (r4, .inr (4, [.ref q0, .ref q1, .ref q2, .ref q3, .ref q4, .ref q5, .int (fX2_takeCharacter nc ss ib li ff fp n0 n1 n2 n3 n4 nb a0 a1 a2 a3 a4 g0 g1 g2 g3 g4 g5 cn t0 t1 t2 t3 t4 t5 x y).2.2.2.2.2.2.2.2.2.2.2.2.2.2.2.2.2.2.2.2.2.2.2.1])), (q0, .inl (cI, 300, .inl (fX2_takeCharacter nc ss ib li ff fp n0 n1 n2 n3 n4 nb a0 a1 a2 a3 a4 g0 g1 g2 g3 g4 g5 cn t0 t1 t2 t3 t4 t5 x y).2.2.2.2.2.2.2.2.2.2.2.2.2.2.2.2.2.2.2.2.2.2.2.2.1)), (q1, .inl (cI, 300, .inl (fX2_takeCharacter nc ss ib li ff fp n0 n1 n2 n3 n4 nb a0 a1 a2 a3 a4 g0 g1 g2 g3 g4 g5 cn t0 t1 t2 t3 t4 t5 x y).2.2.2.2.2.2.2.2.2.2.2.2.2.2.2.2.2.2.2.2.2.2.2.2.2.1)), (q2, .inl (cI, 300, .inl (fX2_takeCharacter nc ss ib li ff fp n0 n1 n2 n3 n4 nb a0 a1 a2 a3 a4 g0 g1 g2 g3 g4 g5 cn t0 t1 t2 t3 t4 t5 x y).2.2.2.2.2.2.2.2.2.2.2.2.2.2.2.2.2.2.2.2.2.2.2.2.2.2.1)), (q3, .inl (cI, 300, .inl (fX2_takeCharacter nc ss ib li ff fp n0 n1 n2 n3 n4 nb a0 a1 a2 a3 a4 g0 g1 g2 g3 g4 g5 cn t0 t1 t2 t3 t4 t5 x y).2.2.2.2.2.2.2.2.2.2.2.2.2.2.2.2.2.2.2.2.2.2.2.2.2.2.2.1)), (q4, .inl (cI, 300, .inl (fX2_takeCharacter nc ss ib li ff fp n0 n1 n2 n3 n4 nb a0 a1 a2 a3 a4 g0 g1 g2 g3 g4 g5 cn t0 t1 t2 t3 t4 t5 x y).2.2.2.2.2.2.2.2.2.2.2.2.2.2.2.2.2.2.2.2.2.2.2.2.2.2.2.2.1)), (q5, .inl (cI, 300, .inl (fX2_takeCharacter nc ss ib li ff fp n0 n1 n2 n3 n4 nb a0 a1 a2 a3 a4 g0 g1 g2 g3 g4 g5 cn t0 t1 t2 t3 t4 t5 x y).2.2.2.2.2.2.2.2.2.2.2.2.2.2.2.2.2.2.2.2.2.2.2.2.2.2.2.2.2))]) (va_A [(h0, .inr (2, [.ref r0, .ref r1, .ref r2, .ref r3, .ref r4, .int nc, .int ss, .int ib, .int li, .int ff, .int fp])), (r0, .inr (1, [.int n0, .int n1, .long n2, .int n3, .int n4])), (r1, .inl (cJ, 5, .inr (.inl nb))), (r2, .inr (0, [.int a0, .int a1, .int a2, .int a3, .int a4])), (r3, .inr (3, [.int g0, .int g1, .int g2, .int g3, .int g4, .int g5])), (r4, .inr (4, [.ref q0, .ref q1, .ref q2, .ref q3, .ref q4, .ref q5, .int cn])), (q0, .inl (cI, 300, .inl t0)), (q1, .inl (cI, 300, .inl t1)), (q2, .inl (cI, 300, .inl t2)), (q3, .inl (cI, 300, .inl t3)), (q4, .inl (cI, 300, .inl t4)), (q5, .inl (cI, 300, .inl t5))] sz)) 0 0 (va_A [(h0, .inr (2, [.ref r0, .ref r1, .ref r2, .ref r3, .ref r4, .int nc, .int ss, .int ib, .int li, .int ff, .int fp])), (r0, .inr (1, [.int n0, .int n1, .long n2, .int n3, .int n4])), (r1, .inl (cJ, 5, .inr (.inl nb))), (r2, .inr (0, [.int a0, .int a1, .int a2, .int a3, .int a4])), (r3, .inr (3, [.int g0, .int g1, .int g2, .int g3, .int g4, .int g5])), (r4, .inr (4, [.ref q0, .ref q1, .ref q2, .ref q3, .ref q4, .ref q5, .int cn])), (q0, .inl (cI, 300, .inl t0)), (q1, .inl (cI, 300, .inl t1)), (q2, .inl (cI, 300, .inl t2)), (q3, .inl (cI, 300, .inl t3)), (q4, .inl (cI, 300, .inl t4)), (q5, .inl (cI, 300, .inl t5))] sz) := by
  refine Met.ofW (cc := cX2_takeCharacter) (maxL := 4) (ret := none) (by decide) rfl ?_
  intro p e s m args below meth c s₁ B hml hv
  obtain ⟨rfl, hsz, hP, hG, hD0, hSK, hSR⟩ := hv
  have hx := B.exec
  have hb := B.bytes
  have hr := B.returns
  have hts := atoms_spec (ws := wsX2_takeCharacter) B.pre
  have hown : s.vm.findClass RX2 = some m.cls := findClass_of_methodNamed B.named
  have hlocks := B.notSynchronized
  subst hsz
  have hD := hD0.self (sz := s.heap.size)
  generalize hAe : va_A [(h0, .inr (2, [.ref r0, .ref r1, .ref r2, .ref r3, .ref r4, .int nc, .int ss, .int ib, .int li, .int ff, .int fp])), (r0, .inr (1, [.int n0, .int n1, .long n2, .int n3, .int n4])), (r1, .inl (cJ, 5, .inr (.inl nb))), (r2, .inr (0, [.int a0, .int a1, .int a2, .int a3, .int a4])), (r3, .inr (3, [.int g0, .int g1, .int g2, .int g3, .int g4, .int g5])), (r4, .inr (4, [.ref q0, .ref q1, .ref q2, .ref q3, .ref q4, .ref q5, .int cn])), (q0, .inl (cI, 300, .inl t0)), (q1, .inl (cI, 300, .inl t1)), (q2, .inl (cI, 300, .inl t2)), (q3, .inl (cI, 300, .inl t3)), (q4, .inl (cI, 300, .inl t4)), (q5, .inl (cI, 300, .inl t5))] s.heap.size = A at hD hSK ⊢
  have hA : ∀ q : Nat, s.heap.size ≤ q → A q := fun q h => by rw [← hAe]; exact Or.inr h
  obtain ⟨H, hH⟩ : ∃ H : Heap, H = s.heap := ⟨_, rfl⟩
  have hS : va_S A s.heap H [] := by rw [hH]; exact va_S.rf
  rw [← hH] at hP ⊢
  generalize hR : fX2_takeCharacter nc ss ib li ff fp n0 n1 n2 n3 n4 nb a0 a1 a2 a3 a4 g0 g1 g2 g3 g4 g5 cn t0 t1 t2 t3 t4 t5 x y = R
  unfold fX2_takeCharacter at hR
  have hl := lv_entry ([.ref h0, .int x, .int y]) (n := 4) (Nat.le_of_ble_eq_true rfl)
  rw [lg_entry_eq]
  generalize (lg_sl ([.ref h0, .int x, .int y]) ++ List.replicate (4 - (lg_sl ([.ref h0, .int x, .int y])).length) Slot.unset).toArray = ls at hl ⊢
  have hl : lv_has ls 4 [(0, .ref h0), (1, .int x), (2, .int y)] := hl
  refine va_ldcS (tx := DIG) hx hb hown hSR.1 dX2_takeCharacter_0 ?_
  refine lv_iload_n hx hb dX2_takeCharacter_2 rfl (lv_at hl 1 rfl) ?_
  refine vp_callSi (va_Run.run (va_runV (As := [.int x]) (rest := []) ⟨hx, hb, hml, hown, hts⟩ (c_J0_indexOf_0f7a4 l ak av x ) (cwV 1 hts gX2_takeCharacter_J0_indexOf_0f7a4 rfl rfl rfl (by decide +kernel) ⟨(Nat.le_of_ble_eq_true rfl), (Nat.le_of_ble_eq_true rfl)⟩) ⟨cS_blind, SK_recv hSK hS, (cS_pre hSK hS)⟩ rfl rfl hl.1 rfl (lv_room (Nat.le_of_ble_eq_true rfl)) dX2_takeCharacter_3 ⟨Nat.le_of_ble_eq_true rfl, Nat.le_of_ble_eq_true rfl⟩)) (fun r_1 hr_1 => ?_)
  rw [bnd_eq hr_1.symm] at hR
  refine lv_istore_n (lv' := [(3, .int r_1), (0, .ref h0), (1, .int x), (2, .int y)]) hx hb dX2_takeCharacter_6 rfl hl (by decide) rfl (fun ls hl => ?_)
  refine lv_iload_n hx hb dX2_takeCharacter_7 rfl (lv_at hl 0 rfl) ?_
  refine lv_if_lt (tgt := 20) hx hb dX2_takeCharacter_8 (by decide) (fun c_2 => ?_) (fun c_2 => ?_)
  · rw [if_pos c_2] at hR
    refine lv_iload_n hx hb dX2_takeCharacter_20 rfl (lv_at hl 2 rfl) ?_
    refine lv_bipush (v := 44) hx hb dX2_takeCharacter_21 (by decide) ?_
    refine lv_icmp_ne (tgt := 40) hx hb dX2_takeCharacter_23 (by decide) (fun c_3 => ?_) (fun c_3 => ?_)
    · rw [if_neg c_3] at hR
      refine lv_iload_n hx hb dX2_takeCharacter_40 rfl (lv_at hl 2 rfl) ?_
      refine lv_bipush (v := 59) hx hb dX2_takeCharacter_41 (by decide) ?_
      refine lv_icmp_ne (tgt := 65) hx hb dX2_takeCharacter_43 (by decide) (fun c_4 => ?_) (fun c_4 => ?_)
      · rw [if_neg c_4] at hR
        refine lv_aload_n hx hb dX2_takeCharacter_65 rfl (lv_at hl 1 rfl) ?_
        refine lv_iconst (v := 1) hx hb dX2_takeCharacter_66 (by decide) ?_
        refine lv_iload_n hx hb dX2_takeCharacter_67 rfl (lv_at hl 3 rfl) ?_
        have hPc := hP.sub (ws' := [(h0, .inr (2, [.ref r0, .ref r1, .ref r2, .ref r3, .ref r4, .int nc, .int ss, .int ib, .int li, .int ff, .int fp]))]) [0] rfl
        have hDc := hD.sub (ws' := [(h0, .inr (2, [.ref r0, .ref r1, .ref r2, .ref r3, .ref r4, .int nc, .int ss, .int ib, .int li, .int ff, .int fp]))]) [0] (by decide) rfl
        have hFc := va_free (wc := [(h0, .inr (2, [.ref r0, .ref r1, .ref r2, .ref r3, .ref r4, .int nc, .int ss, .int ib, .int li, .int ff, .int fp]))]) hD hS hA [0] rfl
        refine va_callv (va_runV (As := [.int 1, .int y]) (rest := []) ⟨hx, hb, hml, hown, hts⟩ (c_X2_refuse l dC dI cB cC cI cJ H.size h0 r0 r1 r2 r3 r4 nc ss ib li ff fp 1 y ) (cwV 2 hts gX2_takeCharacter_X2_refuse rfl rfl rfl (by decide +kernel) ⟨(Nat.le_of_ble_eq_true rfl), (Nat.le_of_ble_eq_true rfl)⟩) ⟨cP_blind, va_recv hG.1 hPc (ci := 2) (q0 := 0) rfl rfl, cP_pre hPc hG hDc⟩ rfl rfl hl.1 rfl (lv_room (Nat.le_of_ble_eq_true rfl)) dX2_takeCharacter_68 ⟨Nat.le_of_ble_eq_true rfl, Nat.le_of_ble_eq_true rfl⟩) hS (fun q _ h => hFc q h) hFc (fun u t H1 locs ht hvm hw hB hz1 hk1 hS => ?_)
        obtain ⟨hP1, hD1⟩ := hB
        rw [ht] at hP1
        generalize hr_5 : fX2_refuse nc ss ib li ff fp 1 y = r_5 at hP1 hD1
        rw [bnd_eq hr_5] at hR
        obtain ⟨hP, hD⟩ := va_join (wr := [(r0, .inr (1, [.int n0, .int n1, .long n2, .int n3, .int n4])), (r1, .inl (cJ, 5, .inr (.inl nb))), (r2, .inr (0, [.int a0, .int a1, .int a2, .int a3, .int a4])), (r3, .inr (3, [.int g0, .int g1, .int g2, .int g3, .int g4, .int g5])), (r4, .inr (4, [.ref q0, .ref q1, .ref q2, .ref q3, .ref q4, .ref q5, .int cn])), (q0, .inl (cI, 300, .inl t0)), (q1, .inl (cI, 300, .inl t1)), (q2, .inl (cI, 300, .inl t2)), (q3, .inl (cI, 300, .inl t3)), (q4, .inl (cI, 300, .inl t4)), (q5, .inl (cI, 300, .inl t5))]) (w1 := [(h0, .inr (2, [.ref r0, .ref r1, .ref r2, .ref r3, .ref r4, .int nc, .int ss, .int ib, .int li, .int r_5.1, .int r_5.2]))]) hP hD [0] [1, 2, 3, 4, 5, 6, 7, 8, 9, 10, 11] rfl rfl (by decide) (by decide) hk1 hFc hP1 hD1
        generalize H1 = H at hP hS ⊢
        have hP := hP.sub (ws' := [(h0, .inr (2, [.ref r0, .ref r1, .ref r2, .ref r3, .ref r4, .int nc, .int ss, .int ib, .int li, .int r_5.1, .int r_5.2])), (r0, .inr (1, [.int n0, .int n1, .long n2, .int n3, .int n4])), (r1, .inl (cJ, 5, .inr (.inl nb))), (r2, .inr (0, [.int a0, .int a1, .int a2, .int a3, .int a4])), (r3, .inr (3, [.int g0, .int g1, .int g2, .int g3, .int g4, .int g5])), (r4, .inr (4, [.ref q0, .ref q1, .ref q2, .ref q3, .ref q4, .ref q5, .int cn])), (q0, .inl (cI, 300, .inl t0)), (q1, .inl (cI, 300, .inl t1)), (q2, .inl (cI, 300, .inl t2)), (q3, .inl (cI, 300, .inl t3)), (q4, .inl (cI, 300, .inl t4)), (q5, .inl (cI, 300, .inl t5))]) [11, 0, 1, 2, 3, 4, 5, 6, 7, 8, 9, 10] rfl
        have hD := hD.sub (ws' := [(h0, .inr (2, [.ref r0, .ref r1, .ref r2, .ref r3, .ref r4, .int nc, .int ss, .int ib, .int li, .int r_5.1, .int r_5.2])), (r0, .inr (1, [.int n0, .int n1, .long n2, .int n3, .int n4])), (r1, .inl (cJ, 5, .inr (.inl nb))), (r2, .inr (0, [.int a0, .int a1, .int a2, .int a3, .int a4])), (r3, .inr (3, [.int g0, .int g1, .int g2, .int g3, .int g4, .int g5])), (r4, .inr (4, [.ref q0, .ref q1, .ref q2, .ref q3, .ref q4, .ref q5, .int cn])), (q0, .inl (cI, 300, .inl t0)), (q1, .inl (cI, 300, .inl t1)), (q2, .inl (cI, 300, .inl t2)), (q3, .inl (cI, 300, .inl t3)), (q4, .inl (cI, 300, .inl t4)), (q5, .inl (cI, 300, .inl t5))]) [11, 0, 1, 2, 3, 4, 5, 6, 7, 8, 9, 10] (by decide) rfl
        have e_6 : 0 ≤ (cn : Int32).toInt ∧ (cn : Int32).toInt ≤ 300 := by
          have k_7 : (0 : Int32).toInt = 0 := by decide
          have q_8 := i_lt c_2
          have k_9 : (44 : Int32).toInt = 44 := by decide
          have q_10 := i_ne c_3
          have k_11 : (59 : Int32).toInt = 59 := by decide
          have q_12 := i_ne c_4
          try generalize Int32.toInt r_1 = z0 at *
          try generalize Int32.toInt (44 : Int32) = z1 at *
          try generalize Int32.toInt (59 : Int32) = z2 at *
          try generalize Int32.toInt cn = z3 at *
          try generalize Int32.toInt nc = z4 at *
          try generalize Int32.toInt (0 : Int32) = z5 at *
          try generalize Int32.toInt x = z6 at *
          omega
        have e_13 : 0 ≤ (nc : Int32).toInt ∧ (nc : Int32).toInt ≤ nc.toInt + 1 := by
          have k_14 : (0 : Int32).toInt = 0 := by decide
          have q_15 := i_lt c_2
          have k_16 : (44 : Int32).toInt = 44 := by decide
          have q_17 := i_ne c_3
          have k_18 : (59 : Int32).toInt = 59 := by decide
          have q_19 := i_ne c_4
          try generalize Int32.toInt r_1 = z0 at *
          try generalize Int32.toInt (44 : Int32) = z1 at *
          try generalize Int32.toInt (59 : Int32) = z2 at *
          try generalize Int32.toInt cn = z3 at *
          try generalize Int32.toInt nc = z4 at *
          try generalize Int32.toInt (0 : Int32) = z5 at *
          try generalize Int32.toInt x = z6 at *
          omega
        subst hR
        exact W.vret hx hb hr (fun t ht hW => ⟨⟨(), rfl, ⟨e_6, e_13⟩, by rw [ht]; exact hP, hD⟩, hS.F ht⟩) hS.2.2 dX2_takeCharacter_71
      · rw [if_pos c_4] at hR
        refine lv_aload_n hx hb dX2_takeCharacter_46 rfl (lv_at hl 1 rfl) ?_
        refine lv_iconst (v := 0) hx hb dX2_takeCharacter_47 (by decide) ?_
        refine lv_iload_n hx hb dX2_takeCharacter_48 rfl (lv_at hl 3 rfl) ?_
        have p_20 : 0 ≤ cn.toInt := by
          first | exact hn0 | assumption
        have p_21 : cn.toInt ≤ 300 := by
          first | exact hn1 | assumption
        have hPc := hP.sub (ws' := [(h0, .inr (2, [.ref r0, .ref r1, .ref r2, .ref r3, .ref r4, .int nc, .int ss, .int ib, .int li, .int ff, .int fp])), (r0, .inr (1, [.int n0, .int n1, .long n2, .int n3, .int n4])), (r1, .inl (cJ, 5, .inr (.inl nb))), (r2, .inr (0, [.int a0, .int a1, .int a2, .int a3, .int a4])), (r3, .inr (3, [.int g0, .int g1, .int g2, .int g3, .int g4, .int g5])), (r4, .inr (4, [.ref q0, .ref q1, .ref q2, .ref q3, .ref q4, .ref q5, .int cn])), (q0, .inl (cI, 300, .inl t0)), (q1, .inl (cI, 300, .inl t1)), (q2, .inl (cI, 300, .inl t2)), (q3, .inl (cI, 300, .inl t3)), (q4, .inl (cI, 300, .inl t4)), (q5, .inl (cI, 300, .inl t5))]) [0, 1, 2, 3, 4, 5, 6, 7, 8, 9, 10, 11] rfl
        have hDc := hD.sub (ws' := [(h0, .inr (2, [.ref r0, .ref r1, .ref r2, .ref r3, .ref r4, .int nc, .int ss, .int ib, .int li, .int ff, .int fp])), (r0, .inr (1, [.int n0, .int n1, .long n2, .int n3, .int n4])), (r1, .inl (cJ, 5, .inr (.inl nb))), (r2, .inr (0, [.int a0, .int a1, .int a2, .int a3, .int a4])), (r3, .inr (3, [.int g0, .int g1, .int g2, .int g3, .int g4, .int g5])), (r4, .inr (4, [.ref q0, .ref q1, .ref q2, .ref q3, .ref q4, .ref q5, .int cn])), (q0, .inl (cI, 300, .inl t0)), (q1, .inl (cI, 300, .inl t1)), (q2, .inl (cI, 300, .inl t2)), (q3, .inl (cI, 300, .inl t3)), (q4, .inl (cI, 300, .inl t4)), (q5, .inl (cI, 300, .inl t5))]) [0, 1, 2, 3, 4, 5, 6, 7, 8, 9, 10, 11] (by decide) rfl
        have hFc := va_free (wc := [(h0, .inr (2, [.ref r0, .ref r1, .ref r2, .ref r3, .ref r4, .int nc, .int ss, .int ib, .int li, .int ff, .int fp])), (r0, .inr (1, [.int n0, .int n1, .long n2, .int n3, .int n4])), (r1, .inl (cJ, 5, .inr (.inl nb))), (r2, .inr (0, [.int a0, .int a1, .int a2, .int a3, .int a4])), (r3, .inr (3, [.int g0, .int g1, .int g2, .int g3, .int g4, .int g5])), (r4, .inr (4, [.ref q0, .ref q1, .ref q2, .ref q3, .ref q4, .ref q5, .int cn])), (q0, .inl (cI, 300, .inl t0)), (q1, .inl (cI, 300, .inl t1)), (q2, .inl (cI, 300, .inl t2)), (q3, .inl (cI, 300, .inl t3)), (q4, .inl (cI, 300, .inl t4)), (q5, .inl (cI, 300, .inl t5))]) hD hS hA [0, 1, 2, 3, 4, 5, 6, 7, 8, 9, 10, 11] rfl
        refine va_callv (va_runV (As := [.int 0, .int y]) (rest := []) ⟨hx, hb, hml, hown, hts⟩ (c_X2_endSegment l dC dI cB cC cI cJ H.size h0 r0 r1 r2 r3 r4 q0 q1 q2 q3 q4 q5 nc ss ib li ff fp n0 n1 n2 n3 n4 nb a0 a1 a2 a3 a4 g0 g1 g2 g3 g4 g5 cn t0 t1 t2 t3 t4 t5 0 y p_20 p_21) (cwV 2 hts gX2_takeCharacter_X2_endSegment rfl rfl rfl (by decide +kernel) ⟨(Nat.le_of_ble_eq_true rfl), (Nat.le_of_ble_eq_true rfl)⟩) ⟨cP_blind, va_recv hG.1 hPc (ci := 2) (q0 := 0) rfl rfl, cP_pre hPc hG hDc⟩ rfl rfl hl.1 rfl (lv_room (Nat.le_of_ble_eq_true rfl)) dX2_takeCharacter_49 ⟨Nat.le_of_ble_eq_true rfl, Nat.le_of_ble_eq_true rfl⟩) hS (fun q _ h => hFc q h) hFc (fun u t H1 locs ht hvm hw hB hz1 hk1 hS => ?_)
        obtain ⟨hP1, hD1⟩ := hB
        rw [ht] at hP1
        generalize hr_22 : fX2_endSegment nc ss ib li ff fp n0 n1 n2 n3 n4 nb a0 a1 a2 a3 a4 g0 g1 g2 g3 g4 g5 cn t0 t1 t2 t3 t4 t5 0 y = r_22 at hP1 hD1 hw
        obtain ⟨er_22_0, er_22_1⟩ := hw
        rw [bnd_eq hr_22] at hR
        obtain ⟨hP, hD⟩ := va_join (wr := []) (w1 := [(h0, .inr (2, [.ref r0, .ref r1, .ref r2, .ref r3, .ref r4, .int r_22.1, .int ss, .int ib, .int li, .int r_22.2.1, .int r_22.2.2.1])), (r0, .inr (1, [.int n0, .int n1, .long n2, .int n3, .int n4])), (r1, .inl (cJ, 5, .inr (.inl nb))), (r2, .inr (0, [.int r_22.2.2.2.1, .int r_22.2.2.2.2.1, .int r_22.2.2.2.2.2.1, .int r_22.2.2.2.2.2.2.1, .int r_22.2.2.2.2.2.2.2.1])), (r3, .inr (3, [.int r_22.2.2.2.2.2.2.2.2.1, .int r_22.2.2.2.2.2.2.2.2.2.1, .int r_22.2.2.2.2.2.2.2.2.2.2.1, .int r_22.2.2.2.2.2.2.2.2.2.2.2.1, .int r_22.2.2.2.2.2.2.2.2.2.2.2.2.1, .int r_22.2.2.2.2.2.2.2.2.2.2.2.2.2.1])), (r4, .inr (4, [.ref q0, .ref q1, .ref q2, .ref q3, .ref q4, .ref q5, .int r_22.2.2.2.2.2.2.2.2.2.2.2.2.2.2.1])), (q0, .inl (cI, 300, .inl r_22.2.2.2.2.2.2.2.2.2.2.2.2.2.2.2.1)), (q1, .inl (cI, 300, .inl r_22.2.2.2.2.2.2.2.2.2.2.2.2.2.2.2.2.1)), (q2, .inl (cI, 300, .inl r_22.2.2.2.2.2.2.2.2.2.2.2.2.2.2.2.2.2.1)), (q3, .inl (cI, 300, .inl r_22.2.2.2.2.2.2.2.2.2.2.2.2.2.2.2.2.2.2.1)), (q4, .inl (cI, 300, .inl r_22.2.2.2.2.2.2.2.2.2.2.2.2.2.2.2.2.2.2.2.1)), (q5, .inl (cI, 300, .inl r_22.2.2.2.2.2.2.2.2.2.2.2.2.2.2.2.2.2.2.2.2))]) hP hD [0, 1, 2, 3, 4, 5, 6, 7, 8, 9, 10, 11] [] rfl rfl (by decide) (by decide) hk1 hFc hP1 hD1
        generalize H1 = H at hP hS ⊢
        have hP := hP.sub (ws' := [(h0, .inr (2, [.ref r0, .ref r1, .ref r2, .ref r3, .ref r4, .int r_22.1, .int ss, .int ib, .int li, .int r_22.2.1, .int r_22.2.2.1])), (r0, .inr (1, [.int n0, .int n1, .long n2, .int n3, .int n4])), (r1, .inl (cJ, 5, .inr (.inl nb))), (r2, .inr (0, [.int r_22.2.2.2.1, .int r_22.2.2.2.2.1, .int r_22.2.2.2.2.2.1, .int r_22.2.2.2.2.2.2.1, .int r_22.2.2.2.2.2.2.2.1])), (r3, .inr (3, [.int r_22.2.2.2.2.2.2.2.2.1, .int r_22.2.2.2.2.2.2.2.2.2.1, .int r_22.2.2.2.2.2.2.2.2.2.2.1, .int r_22.2.2.2.2.2.2.2.2.2.2.2.1, .int r_22.2.2.2.2.2.2.2.2.2.2.2.2.1, .int r_22.2.2.2.2.2.2.2.2.2.2.2.2.2.1])), (r4, .inr (4, [.ref q0, .ref q1, .ref q2, .ref q3, .ref q4, .ref q5, .int r_22.2.2.2.2.2.2.2.2.2.2.2.2.2.2.1])), (q0, .inl (cI, 300, .inl r_22.2.2.2.2.2.2.2.2.2.2.2.2.2.2.2.1)), (q1, .inl (cI, 300, .inl r_22.2.2.2.2.2.2.2.2.2.2.2.2.2.2.2.2.1)), (q2, .inl (cI, 300, .inl r_22.2.2.2.2.2.2.2.2.2.2.2.2.2.2.2.2.2.1)), (q3, .inl (cI, 300, .inl r_22.2.2.2.2.2.2.2.2.2.2.2.2.2.2.2.2.2.2.1)), (q4, .inl (cI, 300, .inl r_22.2.2.2.2.2.2.2.2.2.2.2.2.2.2.2.2.2.2.2.1)), (q5, .inl (cI, 300, .inl r_22.2.2.2.2.2.2.2.2.2.2.2.2.2.2.2.2.2.2.2.2))]) [0, 1, 2, 3, 4, 5, 6, 7, 8, 9, 10, 11] rfl
        have hD := hD.sub (ws' := [(h0, .inr (2, [.ref r0, .ref r1, .ref r2, .ref r3, .ref r4, .int r_22.1, .int ss, .int ib, .int li, .int r_22.2.1, .int r_22.2.2.1])), (r0, .inr (1, [.int n0, .int n1, .long n2, .int n3, .int n4])), (r1, .inl (cJ, 5, .inr (.inl nb))), (r2, .inr (0, [.int r_22.2.2.2.1, .int r_22.2.2.2.2.1, .int r_22.2.2.2.2.2.1, .int r_22.2.2.2.2.2.2.1, .int r_22.2.2.2.2.2.2.2.1])), (r3, .inr (3, [.int r_22.2.2.2.2.2.2.2.2.1, .int r_22.2.2.2.2.2.2.2.2.2.1, .int r_22.2.2.2.2.2.2.2.2.2.2.1, .int r_22.2.2.2.2.2.2.2.2.2.2.2.1, .int r_22.2.2.2.2.2.2.2.2.2.2.2.2.1, .int r_22.2.2.2.2.2.2.2.2.2.2.2.2.2.1])), (r4, .inr (4, [.ref q0, .ref q1, .ref q2, .ref q3, .ref q4, .ref q5, .int r_22.2.2.2.2.2.2.2.2.2.2.2.2.2.2.1])), (q0, .inl (cI, 300, .inl r_22.2.2.2.2.2.2.2.2.2.2.2.2.2.2.2.1)), (q1, .inl (cI, 300, .inl r_22.2.2.2.2.2.2.2.2.2.2.2.2.2.2.2.2.1)), (q2, .inl (cI, 300, .inl r_22.2.2.2.2.2.2.2.2.2.2.2.2.2.2.2.2.2.1)), (q3, .inl (cI, 300, .inl r_22.2.2.2.2.2.2.2.2.2.2.2.2.2.2.2.2.2.2.1)), (q4, .inl (cI, 300, .inl r_22.2.2.2.2.2.2.2.2.2.2.2.2.2.2.2.2.2.2.2.1)), (q5, .inl (cI, 300, .inl r_22.2.2.2.2.2.2.2.2.2.2.2.2.2.2.2.2.2.2.2.2))]) [0, 1, 2, 3, 4, 5, 6, 7, 8, 9, 10, 11] (by decide) rfl
        refine lv_aload_n hx hb dX2_takeCharacter_52 rfl (lv_at hl 1 rfl) ?_
        refine lv_iconst (v := 0) hx hb dX2_takeCharacter_53 (by decide) ?_
        refine va_put (D := (dC, dI)) (ci := 2) (v := .int 0) (ty := .boolean) (C := RX2) (T := TX2) (N := 11) hx hb hts inc_X2_takeCharacter_2 tyX2 tyX2_ok nmX2 hown hG.1 hP hD hS 0 rfl rfl 7 (by decide) (hts (.fieldLink RX2 82 "MappingDesk$Reader" "isBehindComma" "Z") (by decide +kernel)) (fun _ h9 => h9) rfl (by decide +kernel) rfl rfl (Nat.le_of_ble_eq_true rfl) dX2_takeCharacter_54 (fun H locs hP hD hS => ?_)
        have hP : va_P (dC, dI) vwCl [(h0, .inr (2, [.ref r0, .ref r1, .ref r2, .ref r3, .ref r4, .int r_22.1, .int ss, .int 0, .int li, .int r_22.2.1, .int r_22.2.2.1])), (r0, .inr (1, [.int n0, .int n1, .long n2, .int n3, .int n4])), (r1, .inl (cJ, 5, .inr (.inl nb))), (r2, .inr (0, [.int r_22.2.2.2.1, .int r_22.2.2.2.2.1, .int r_22.2.2.2.2.2.1, .int r_22.2.2.2.2.2.2.1, .int r_22.2.2.2.2.2.2.2.1])), (r3, .inr (3, [.int r_22.2.2.2.2.2.2.2.2.1, .int r_22.2.2.2.2.2.2.2.2.2.1, .int r_22.2.2.2.2.2.2.2.2.2.2.1, .int r_22.2.2.2.2.2.2.2.2.2.2.2.1, .int r_22.2.2.2.2.2.2.2.2.2.2.2.2.1, .int r_22.2.2.2.2.2.2.2.2.2.2.2.2.2.1])), (r4, .inr (4, [.ref q0, .ref q1, .ref q2, .ref q3, .ref q4, .ref q5, .int r_22.2.2.2.2.2.2.2.2.2.2.2.2.2.2.1])), (q0, .inl (cI, 300, .inl r_22.2.2.2.2.2.2.2.2.2.2.2.2.2.2.2.1)), (q1, .inl (cI, 300, .inl r_22.2.2.2.2.2.2.2.2.2.2.2.2.2.2.2.2.1)), (q2, .inl (cI, 300, .inl r_22.2.2.2.2.2.2.2.2.2.2.2.2.2.2.2.2.2.1)), (q3, .inl (cI, 300, .inl r_22.2.2.2.2.2.2.2.2.2.2.2.2.2.2.2.2.2.2.1)), (q4, .inl (cI, 300, .inl r_22.2.2.2.2.2.2.2.2.2.2.2.2.2.2.2.2.2.2.2.1)), (q5, .inl (cI, 300, .inl r_22.2.2.2.2.2.2.2.2.2.2.2.2.2.2.2.2.2.2.2.2))] H := hP
        have hD : va_D A [(h0, .inr (2, [.ref r0, .ref r1, .ref r2, .ref r3, .ref r4, .int r_22.1, .int ss, .int 0, .int li, .int r_22.2.1, .int r_22.2.2.1])), (r0, .inr (1, [.int n0, .int n1, .long n2, .int n3, .int n4])), (r1, .inl (cJ, 5, .inr (.inl nb))), (r2, .inr (0, [.int r_22.2.2.2.1, .int r_22.2.2.2.2.1, .int r_22.2.2.2.2.2.1, .int r_22.2.2.2.2.2.2.1, .int r_22.2.2.2.2.2.2.2.1])), (r3, .inr (3, [.int r_22.2.2.2.2.2.2.2.2.1, .int r_22.2.2.2.2.2.2.2.2.2.1, .int r_22.2.2.2.2.2.2.2.2.2.2.1, .int r_22.2.2.2.2.2.2.2.2.2.2.2.1, .int r_22.2.2.2.2.2.2.2.2.2.2.2.2.1, .int r_22.2.2.2.2.2.2.2.2.2.2.2.2.2.1])), (r4, .inr (4, [.ref q0, .ref q1, .ref q2, .ref q3, .ref q4, .ref q5, .int r_22.2.2.2.2.2.2.2.2.2.2.2.2.2.2.1])), (q0, .inl (cI, 300, .inl r_22.2.2.2.2.2.2.2.2.2.2.2.2.2.2.2.1)), (q1, .inl (cI, 300, .inl r_22.2.2.2.2.2.2.2.2.2.2.2.2.2.2.2.2.1)), (q2, .inl (cI, 300, .inl r_22.2.2.2.2.2.2.2.2.2.2.2.2.2.2.2.2.2.1)), (q3, .inl (cI, 300, .inl r_22.2.2.2.2.2.2.2.2.2.2.2.2.2.2.2.2.2.2.1)), (q4, .inl (cI, 300, .inl r_22.2.2.2.2.2.2.2.2.2.2.2.2.2.2.2.2.2.2.2.1)), (q5, .inl (cI, 300, .inl r_22.2.2.2.2.2.2.2.2.2.2.2.2.2.2.2.2.2.2.2.2))] := hD
        refine lv_aload_n hx hb dX2_takeCharacter_57 rfl (lv_at hl 1 rfl) ?_
        refine lv_iload_n hx hb dX2_takeCharacter_58 rfl (lv_at hl 3 rfl) ?_
        have hPc := hP.sub (ws' := [(h0, .inr (2, [.ref r0, .ref r1, .ref r2, .ref r3, .ref r4, .int r_22.1, .int ss, .int 0, .int li, .int r_22.2.1, .int r_22.2.2.1])), (r2, .inr (0, [.int r_22.2.2.2.1, .int r_22.2.2.2.2.1, .int r_22.2.2.2.2.2.1, .int r_22.2.2.2.2.2.2.1, .int r_22.2.2.2.2.2.2.2.1]))]) [0, 3] rfl
        have hDc := hD.sub (ws' := [(h0, .inr (2, [.ref r0, .ref r1, .ref r2, .ref r3, .ref r4, .int r_22.1, .int ss, .int 0, .int li, .int r_22.2.1, .int r_22.2.2.1])), (r2, .inr (0, [.int r_22.2.2.2.1, .int r_22.2.2.2.2.1, .int r_22.2.2.2.2.2.1, .int r_22.2.2.2.2.2.2.1, .int r_22.2.2.2.2.2.2.2.1]))]) [0, 3] (by decide) rfl
        have hFc := va_free (wc := [(h0, .inr (2, [.ref r0, .ref r1, .ref r2, .ref r3, .ref r4, .int r_22.1, .int ss, .int 0, .int li, .int r_22.2.1, .int r_22.2.2.1])), (r2, .inr (0, [.int r_22.2.2.2.1, .int r_22.2.2.2.2.1, .int r_22.2.2.2.2.2.1, .int r_22.2.2.2.2.2.2.1, .int r_22.2.2.2.2.2.2.2.1]))]) hD hS hA [0, 3] rfl
        refine va_callv (va_runV (As := [.int y]) (rest := []) ⟨hx, hb, hml, hown, hts⟩ (c_X2_startLine l dC dI cB cC cI cJ H.size h0 r0 r1 r2 r3 r4 r_22.1 ss 0 li r_22.2.1 r_22.2.2.1 r_22.2.2.2.1 r_22.2.2.2.2.1 r_22.2.2.2.2.2.1 r_22.2.2.2.2.2.2.1 r_22.2.2.2.2.2.2.2.1 y ) (cwV 1 hts gX2_takeCharacter_X2_startLine rfl rfl rfl (by decide +kernel) ⟨(Nat.le_of_ble_eq_true rfl), (Nat.le_of_ble_eq_true rfl)⟩) ⟨cP_blind, va_recv hG.1 hPc (ci := 2) (q0 := 0) rfl rfl, cP_pre hPc hG hDc⟩ rfl rfl hl.1 rfl (lv_room (Nat.le_of_ble_eq_true rfl)) dX2_takeCharacter_59 ⟨Nat.le_of_ble_eq_true rfl, Nat.le_of_ble_eq_true rfl⟩) hS (fun q _ h => hFc q h) hFc (fun u t H1 locs ht hvm hw hB hz1 hk1 hS => ?_)
        obtain ⟨hP1, hD1⟩ := hB
        rw [ht] at hP1
        generalize hr_23 : fX2_startLine r_22.1 ss 0 li r_22.2.1 r_22.2.2.1 r_22.2.2.2.1 r_22.2.2.2.2.1 r_22.2.2.2.2.2.1 r_22.2.2.2.2.2.2.1 r_22.2.2.2.2.2.2.2.1 y = r_23 at hP1 hD1
        rw [bnd_eq hr_23] at hR
        obtain ⟨hP, hD⟩ := va_join (wr := [(r0, .inr (1, [.int n0, .int n1, .long n2, .int n3, .int n4])), (r1, .inl (cJ, 5, .inr (.inl nb))), (r3, .inr (3, [.int r_22.2.2.2.2.2.2.2.2.1, .int r_22.2.2.2.2.2.2.2.2.2.1, .int r_22.2.2.2.2.2.2.2.2.2.2.1, .int r_22.2.2.2.2.2.2.2.2.2.2.2.1, .int r_22.2.2.2.2.2.2.2.2.2.2.2.2.1, .int r_22.2.2.2.2.2.2.2.2.2.2.2.2.2.1])), (r4, .inr (4, [.ref q0, .ref q1, .ref q2, .ref q3, .ref q4, .ref q5, .int r_22.2.2.2.2.2.2.2.2.2.2.2.2.2.2.1])), (q0, .inl (cI, 300, .inl r_22.2.2.2.2.2.2.2.2.2.2.2.2.2.2.2.1)), (q1, .inl (cI, 300, .inl r_22.2.2.2.2.2.2.2.2.2.2.2.2.2.2.2.2.1)), (q2, .inl (cI, 300, .inl r_22.2.2.2.2.2.2.2.2.2.2.2.2.2.2.2.2.2.1)), (q3, .inl (cI, 300, .inl r_22.2.2.2.2.2.2.2.2.2.2.2.2.2.2.2.2.2.2.1)), (q4, .inl (cI, 300, .inl r_22.2.2.2.2.2.2.2.2.2.2.2.2.2.2.2.2.2.2.2.1)), (q5, .inl (cI, 300, .inl r_22.2.2.2.2.2.2.2.2.2.2.2.2.2.2.2.2.2.2.2.2))]) (w1 := [(h0, .inr (2, [.ref r0, .ref r1, .ref r2, .ref r3, .ref r4, .int r_22.1, .int ss, .int 0, .int r_23.1, .int r_23.2.1, .int r_23.2.2.1])), (r2, .inr (0, [.int r_23.2.2.2, .int r_22.2.2.2.2.1, .int r_22.2.2.2.2.2.1, .int r_22.2.2.2.2.2.2.1, .int r_22.2.2.2.2.2.2.2.1]))]) hP hD [0, 3] [1, 2, 4, 5, 6, 7, 8, 9, 10, 11] rfl rfl (by decide) (by decide) hk1 hFc hP1 hD1
        generalize H1 = H at hP hS ⊢
        have hP := hP.sub (ws' := [(h0, .inr (2, [.ref r0, .ref r1, .ref r2, .ref r3, .ref r4, .int r_22.1, .int ss, .int 0, .int r_23.1, .int r_23.2.1, .int r_23.2.2.1])), (r0, .inr (1, [.int n0, .int n1, .long n2, .int n3, .int n4])), (r1, .inl (cJ, 5, .inr (.inl nb))), (r2, .inr (0, [.int r_23.2.2.2, .int r_22.2.2.2.2.1, .int r_22.2.2.2.2.2.1, .int r_22.2.2.2.2.2.2.1, .int r_22.2.2.2.2.2.2.2.1])), (r3, .inr (3, [.int r_22.2.2.2.2.2.2.2.2.1, .int r_22.2.2.2.2.2.2.2.2.2.1, .int r_22.2.2.2.2.2.2.2.2.2.2.1, .int r_22.2.2.2.2.2.2.2.2.2.2.2.1, .int r_22.2.2.2.2.2.2.2.2.2.2.2.2.1, .int r_22.2.2.2.2.2.2.2.2.2.2.2.2.2.1])), (r4, .inr (4, [.ref q0, .ref q1, .ref q2, .ref q3, .ref q4, .ref q5, .int r_22.2.2.2.2.2.2.2.2.2.2.2.2.2.2.1])), (q0, .inl (cI, 300, .inl r_22.2.2.2.2.2.2.2.2.2.2.2.2.2.2.2.1)), (q1, .inl (cI, 300, .inl r_22.2.2.2.2.2.2.2.2.2.2.2.2.2.2.2.2.1)), (q2, .inl (cI, 300, .inl r_22.2.2.2.2.2.2.2.2.2.2.2.2.2.2.2.2.2.1)), (q3, .inl (cI, 300, .inl r_22.2.2.2.2.2.2.2.2.2.2.2.2.2.2.2.2.2.2.1)), (q4, .inl (cI, 300, .inl r_22.2.2.2.2.2.2.2.2.2.2.2.2.2.2.2.2.2.2.2.1)), (q5, .inl (cI, 300, .inl r_22.2.2.2.2.2.2.2.2.2.2.2.2.2.2.2.2.2.2.2.2))]) [10, 0, 1, 11, 2, 3, 4, 5, 6, 7, 8, 9] rfl
        have hD := hD.sub (ws' := [(h0, .inr (2, [.ref r0, .ref r1, .ref r2, .ref r3, .ref r4, .int r_22.1, .int ss, .int 0, .int r_23.1, .int r_23.2.1, .int r_23.2.2.1])), (r0, .inr (1, [.int n0, .int n1, .long n2, .int n3, .int n4])), (r1, .inl (cJ, 5, .inr (.inl nb))), (r2, .inr (0, [.int r_23.2.2.2, .int r_22.2.2.2.2.1, .int r_22.2.2.2.2.2.1, .int r_22.2.2.2.2.2.2.1, .int r_22.2.2.2.2.2.2.2.1])), (r3, .inr (3, [.int r_22.2.2.2.2.2.2.2.2.1, .int r_22.2.2.2.2.2.2.2.2.2.1, .int r_22.2.2.2.2.2.2.2.2.2.2.1, .int r_22.2.2.2.2.2.2.2.2.2.2.2.1, .int r_22.2.2.2.2.2.2.2.2.2.2.2.2.1, .int r_22.2.2.2.2.2.2.2.2.2.2.2.2.2.1])), (r4, .inr (4, [.ref q0, .ref q1, .ref q2, .ref q3, .ref q4, .ref q5, .int r_22.2.2.2.2.2.2.2.2.2.2.2.2.2.2.1])), (q0, .inl (cI, 300, .inl r_22.2.2.2.2.2.2.2.2.2.2.2.2.2.2.2.1)), (q1, .inl (cI, 300, .inl r_22.2.2.2.2.2.2.2.2.2.2.2.2.2.2.2.2.1)), (q2, .inl (cI, 300, .inl r_22.2.2.2.2.2.2.2.2.2.2.2.2.2.2.2.2.2.1)), (q3, .inl (cI, 300, .inl r_22.2.2.2.2.2.2.2.2.2.2.2.2.2.2.2.2.2.2.1)), (q4, .inl (cI, 300, .inl r_22.2.2.2.2.2.2.2.2.2.2.2.2.2.2.2.2.2.2.2.1)), (q5, .inl (cI, 300, .inl r_22.2.2.2.2.2.2.2.2.2.2.2.2.2.2.2.2.2.2.2.2))]) [10, 0, 1, 11, 2, 3, 4, 5, 6, 7, 8, 9] (by decide) rfl
        refine lv_goto (tgt := 71) hx hb dX2_takeCharacter_62 (by decide) ?_
        have e_24 : 0 ≤ (r_22.2.2.2.2.2.2.2.2.2.2.2.2.2.2.1 : Int32).toInt ∧ (r_22.2.2.2.2.2.2.2.2.2.2.2.2.2.2.1 : Int32).toInt ≤ 300 := by
          have k_25 : (0 : Int32).toInt = 0 := by decide
          have q_26 := i_lt c_2
          have k_27 : (44 : Int32).toInt = 44 := by decide
          have q_28 := i_ne c_3
          have k_29 : (59 : Int32).toInt = 59 := by decide
          have q_30 := i_eq c_4
          try generalize Int32.toInt r_22.2.2.2.2.2.2.2.2.2.2.2.2.2.2.1 = z0 at *
          try generalize Int32.toInt r_22.1 = z1 at *
          try generalize Int32.toInt r_1 = z2 at *
          try generalize Int32.toInt (44 : Int32) = z3 at *
          try generalize Int32.toInt (59 : Int32) = z4 at *
          try generalize Int32.toInt cn = z5 at *
          try generalize Int32.toInt nc = z6 at *
          try generalize Int32.toInt (0 : Int32) = z7 at *
          try generalize Int32.toInt x = z8 at *
          omega
        have e_31 : 0 ≤ (r_22.1 : Int32).toInt ∧ (r_22.1 : Int32).toInt ≤ nc.toInt + 1 := by
          have k_32 : (0 : Int32).toInt = 0 := by decide
          have q_33 := i_lt c_2
          have k_34 : (44 : Int32).toInt = 44 := by decide
          have q_35 := i_ne c_3
          have k_36 : (59 : Int32).toInt = 59 := by decide
          have q_37 := i_eq c_4
          try generalize Int32.toInt r_22.2.2.2.2.2.2.2.2.2.2.2.2.2.2.1 = z0 at *
          try generalize Int32.toInt r_22.1 = z1 at *
          try generalize Int32.toInt r_1 = z2 at *
          try generalize Int32.toInt (44 : Int32) = z3 at *
          try generalize Int32.toInt (59 : Int32) = z4 at *
          try generalize Int32.toInt cn = z5 at *
          try generalize Int32.toInt nc = z6 at *
          try generalize Int32.toInt (0 : Int32) = z7 at *
          try generalize Int32.toInt x = z8 at *
          omega
        subst hR
        exact W.vret hx hb hr (fun t ht hW => ⟨⟨(), rfl, ⟨e_24, e_31⟩, by rw [ht]; exact hP, hD⟩, hS.F ht⟩) hS.2.2 dX2_takeCharacter_71
    · rw [if_pos c_3] at hR
      refine lv_aload_n hx hb dX2_takeCharacter_26 rfl (lv_at hl 1 rfl) ?_
      refine lv_iconst (v := 1) hx hb dX2_takeCharacter_27 (by decide) ?_
      refine lv_iload_n hx hb dX2_takeCharacter_28 rfl (lv_at hl 3 rfl) ?_
      have p_38 : 0 ≤ cn.toInt := by
        first | exact hn0 | assumption
      have p_39 : cn.toInt ≤ 300 := by
        first | exact hn1 | assumption
      have hPc := hP.sub (ws' := [(h0, .inr (2, [.ref r0, .ref r1, .ref r2, .ref r3, .ref r4, .int nc, .int ss, .int ib, .int li, .int ff, .int fp])), (r0, .inr (1, [.int n0, .int n1, .long n2, .int n3, .int n4])), (r1, .inl (cJ, 5, .inr (.inl nb))), (r2, .inr (0, [.int a0, .int a1, .int a2, .int a3, .int a4])), (r3, .inr (3, [.int g0, .int g1, .int g2, .int g3, .int g4, .int g5])), (r4, .inr (4, [.ref q0, .ref q1, .ref q2, .ref q3, .ref q4, .ref q5, .int cn])), (q0, .inl (cI, 300, .inl t0)), (q1, .inl (cI, 300, .inl t1)), (q2, .inl (cI, 300, .inl t2)), (q3, .inl (cI, 300, .inl t3)), (q4, .inl (cI, 300, .inl t4)), (q5, .inl (cI, 300, .inl t5))]) [0, 1, 2, 3, 4, 5, 6, 7, 8, 9, 10, 11] rfl
      have hDc := hD.sub (ws' := [(h0, .inr (2, [.ref r0, .ref r1, .ref r2, .ref r3, .ref r4, .int nc, .int ss, .int ib, .int li, .int ff, .int fp])), (r0, .inr (1, [.int n0, .int n1, .long n2, .int n3, .int n4])), (r1, .inl (cJ, 5, .inr (.inl nb))), (r2, .inr (0, [.int a0, .int a1, .int a2, .int a3, .int a4])), (r3, .inr (3, [.int g0, .int g1, .int g2, .int g3, .int g4, .int g5])), (r4, .inr (4, [.ref q0, .ref q1, .ref q2, .ref q3, .ref q4, .ref q5, .int cn])), (q0, .inl (cI, 300, .inl t0)), (q1, .inl (cI, 300, .inl t1)), (q2, .inl (cI, 300, .inl t2)), (q3, .inl (cI, 300, .inl t3)), (q4, .inl (cI, 300, .inl t4)), (q5, .inl (cI, 300, .inl t5))]) [0, 1, 2, 3, 4, 5, 6, 7, 8, 9, 10, 11] (by decide) rfl
      have hFc := va_free (wc := [(h0, .inr (2, [.ref r0, .ref r1, .ref r2, .ref r3, .ref r4, .int nc, .int ss, .int ib, .int li, .int ff, .int fp])), (r0, .inr (1, [.int n0, .int n1, .long n2, .int n3, .int n4])), (r1, .inl (cJ, 5, .inr (.inl nb))), (r2, .inr (0, [.int a0, .int a1, .int a2, .int a3, .int a4])), (r3, .inr (3, [.int g0, .int g1, .int g2, .int g3, .int g4, .int g5])), (r4, .inr (4, [.ref q0, .ref q1, .ref q2, .ref q3, .ref q4, .ref q5, .int cn])), (q0, .inl (cI, 300, .inl t0)), (q1, .inl (cI, 300, .inl t1)), (q2, .inl (cI, 300, .inl t2)), (q3, .inl (cI, 300, .inl t3)), (q4, .inl (cI, 300, .inl t4)), (q5, .inl (cI, 300, .inl t5))]) hD hS hA [0, 1, 2, 3, 4, 5, 6, 7, 8, 9, 10, 11] rfl
      refine va_callv (va_runV (As := [.int 1, .int y]) (rest := []) ⟨hx, hb, hml, hown, hts⟩ (c_X2_endSegment l dC dI cB cC cI cJ H.size h0 r0 r1 r2 r3 r4 q0 q1 q2 q3 q4 q5 nc ss ib li ff fp n0 n1 n2 n3 n4 nb a0 a1 a2 a3 a4 g0 g1 g2 g3 g4 g5 cn t0 t1 t2 t3 t4 t5 1 y p_38 p_39) (cwV 2 hts gX2_takeCharacter_X2_endSegment rfl rfl rfl (by decide +kernel) ⟨(Nat.le_of_ble_eq_true rfl), (Nat.le_of_ble_eq_true rfl)⟩) ⟨cP_blind, va_recv hG.1 hPc (ci := 2) (q0 := 0) rfl rfl, cP_pre hPc hG hDc⟩ rfl rfl hl.1 rfl (lv_room (Nat.le_of_ble_eq_true rfl)) dX2_takeCharacter_29 ⟨Nat.le_of_ble_eq_true rfl, Nat.le_of_ble_eq_true rfl⟩) hS (fun q _ h => hFc q h) hFc (fun u t H1 locs ht hvm hw hB hz1 hk1 hS => ?_)
      obtain ⟨hP1, hD1⟩ := hB
      rw [ht] at hP1
      generalize hr_40 : fX2_endSegment nc ss ib li ff fp n0 n1 n2 n3 n4 nb a0 a1 a2 a3 a4 g0 g1 g2 g3 g4 g5 cn t0 t1 t2 t3 t4 t5 1 y = r_40 at hP1 hD1 hw
      obtain ⟨er_40_0, er_40_1⟩ := hw
      rw [bnd_eq hr_40] at hR
      obtain ⟨hP, hD⟩ := va_join (wr := []) (w1 := [(h0, .inr (2, [.ref r0, .ref r1, .ref r2, .ref r3, .ref r4, .int r_40.1, .int ss, .int ib, .int li, .int r_40.2.1, .int r_40.2.2.1])), (r0, .inr (1, [.int n0, .int n1, .long n2, .int n3, .int n4])), (r1, .inl (cJ, 5, .inr (.inl nb))), (r2, .inr (0, [.int r_40.2.2.2.1, .int r_40.2.2.2.2.1, .int r_40.2.2.2.2.2.1, .int r_40.2.2.2.2.2.2.1, .int r_40.2.2.2.2.2.2.2.1])), (r3, .inr (3, [.int r_40.2.2.2.2.2.2.2.2.1, .int r_40.2.2.2.2.2.2.2.2.2.1, .int r_40.2.2.2.2.2.2.2.2.2.2.1, .int r_40.2.2.2.2.2.2.2.2.2.2.2.1, .int r_40.2.2.2.2.2.2.2.2.2.2.2.2.1, .int r_40.2.2.2.2.2.2.2.2.2.2.2.2.2.1])), (r4, .inr (4, [.ref q0, .ref q1, .ref q2, .ref q3, .ref q4, .ref q5, .int r_40.2.2.2.2.2.2.2.2.2.2.2.2.2.2.1])), (q0, .inl (cI, 300, .inl r_40.2.2.2.2.2.2.2.2.2.2.2.2.2.2.2.1)), (q1, .inl (cI, 300, .inl r_40.2.2.2.2.2.2.2.2.2.2.2.2.2.2.2.2.1)), (q2, .inl (cI, 300, .inl r_40.2.2.2.2.2.2.2.2.2.2.2.2.2.2.2.2.2.1)), (q3, .inl (cI, 300, .inl r_40.2.2.2.2.2.2.2.2.2.2.2.2.2.2.2.2.2.2.1)), (q4, .inl (cI, 300, .inl r_40.2.2.2.2.2.2.2.2.2.2.2.2.2.2.2.2.2.2.2.1)), (q5, .inl (cI, 300, .inl r_40.2.2.2.2.2.2.2.2.2.2.2.2.2.2.2.2.2.2.2.2))]) hP hD [0, 1, 2, 3, 4, 5, 6, 7, 8, 9, 10, 11] [] rfl rfl (by decide) (by decide) hk1 hFc hP1 hD1
      generalize H1 = H at hP hS ⊢
      have hP := hP.sub (ws' := [(h0, .inr (2, [.ref r0, .ref r1, .ref r2, .ref r3, .ref r4, .int r_40.1, .int ss, .int ib, .int li, .int r_40.2.1, .int r_40.2.2.1])), (r0, .inr (1, [.int n0, .int n1, .long n2, .int n3, .int n4])), (r1, .inl (cJ, 5, .inr (.inl nb))), (r2, .inr (0, [.int r_40.2.2.2.1, .int r_40.2.2.2.2.1, .int r_40.2.2.2.2.2.1, .int r_40.2.2.2.2.2.2.1, .int r_40.2.2.2.2.2.2.2.1])), (r3, .inr (3, [.int r_40.2.2.2.2.2.2.2.2.1, .int r_40.2.2.2.2.2.2.2.2.2.1, .int r_40.2.2.2.2.2.2.2.2.2.2.1, .int r_40.2.2.2.2.2.2.2.2.2.2.2.1, .int r_40.2.2.2.2.2.2.2.2.2.2.2.2.1, .int r_40.2.2.2.2.2.2.2.2.2.2.2.2.2.1])), (r4, .inr (4, [.ref q0, .ref q1, .ref q2, .ref q3, .ref q4, .ref q5, .int r_40.2.2.2.2.2.2.2.2.2.2.2.2.2.2.1])), (q0, .inl (cI, 300, .inl r_40.2.2.2.2.2.2.2.2.2.2.2.2.2.2.2.1)), (q1, .inl (cI, 300, .inl r_40.2.2.2.2.2.2.2.2.2.2.2.2.2.2.2.2.1)), (q2, .inl (cI, 300, .inl r_40.2.2.2.2.2.2.2.2.2.2.2.2.2.2.2.2.2.1)), (q3, .inl (cI, 300, .inl r_40.2.2.2.2.2.2.2.2.2.2.2.2.2.2.2.2.2.2.1)), (q4, .inl (cI, 300, .inl r_40.2.2.2.2.2.2.2.2.2.2.2.2.2.2.2.2.2.2.2.1)), (q5, .inl (cI, 300, .inl r_40.2.2.2.2.2.2.2.2.2.2.2.2.2.2.2.2.2.2.2.2))]) [0, 1, 2, 3, 4, 5, 6, 7, 8, 9, 10, 11] rfl
      have hD := hD.sub (ws' := [(h0, .inr (2, [.ref r0, .ref r1, .ref r2, .ref r3, .ref r4, .int r_40.1, .int ss, .int ib, .int li, .int r_40.2.1, .int r_40.2.2.1])), (r0, .inr (1, [.int n0, .int n1, .long n2, .int n3, .int n4])), (r1, .inl (cJ, 5, .inr (.inl nb))), (r2, .inr (0, [.int r_40.2.2.2.1, .int r_40.2.2.2.2.1, .int r_40.2.2.2.2.2.1, .int r_40.2.2.2.2.2.2.1, .int r_40.2.2.2.2.2.2.2.1])), (r3, .inr (3, [.int r_40.2.2.2.2.2.2.2.2.1, .int r_40.2.2.2.2.2.2.2.2.2.1, .int r_40.2.2.2.2.2.2.2.2.2.2.1, .int r_40.2.2.2.2.2.2.2.2.2.2.2.1, .int r_40.2.2.2.2.2.2.2.2.2.2.2.2.1, .int r_40.2.2.2.2.2.2.2.2.2.2.2.2.2.1])), (r4, .inr (4, [.ref q0, .ref q1, .ref q2, .ref q3, .ref q4, .ref q5, .int r_40.2.2.2.2.2.2.2.2.2.2.2.2.2.2.1])), (q0, .inl (cI, 300, .inl r_40.2.2.2.2.2.2.2.2.2.2.2.2.2.2.2.1)), (q1, .inl (cI, 300, .inl r_40.2.2.2.2.2.2.2.2.2.2.2.2.2.2.2.2.1)), (q2, .inl (cI, 300, .inl r_40.2.2.2.2.2.2.2.2.2.2.2.2.2.2.2.2.2.1)), (q3, .inl (cI, 300, .inl r_40.2.2.2.2.2.2.2.2.2.2.2.2.2.2.2.2.2.2.1)), (q4, .inl (cI, 300, .inl r_40.2.2.2.2.2.2.2.2.2.2.2.2.2.2.2.2.2.2.2.1)), (q5, .inl (cI, 300, .inl r_40.2.2.2.2.2.2.2.2.2.2.2.2.2.2.2.2.2.2.2.2))]) [0, 1, 2, 3, 4, 5, 6, 7, 8, 9, 10, 11] (by decide) rfl
      refine lv_aload_n hx hb dX2_takeCharacter_32 rfl (lv_at hl 1 rfl) ?_
      refine lv_iconst (v := 1) hx hb dX2_takeCharacter_33 (by decide) ?_
      refine va_put (D := (dC, dI)) (ci := 2) (v := .int 1) (ty := .boolean) (C := RX2) (T := TX2) (N := 11) hx hb hts inc_X2_takeCharacter_2 tyX2 tyX2_ok nmX2 hown hG.1 hP hD hS 0 rfl rfl 7 (by decide) (hts (.fieldLink RX2 82 "MappingDesk$Reader" "isBehindComma" "Z") (by decide +kernel)) (fun _ h9 => h9) rfl (by decide +kernel) rfl rfl (Nat.le_of_ble_eq_true rfl) dX2_takeCharacter_34 (fun H locs hP hD hS => ?_)
      have hP : va_P (dC, dI) vwCl [(h0, .inr (2, [.ref r0, .ref r1, .ref r2, .ref r3, .ref r4, .int r_40.1, .int ss, .int 1, .int li, .int r_40.2.1, .int r_40.2.2.1])), (r0, .inr (1, [.int n0, .int n1, .long n2, .int n3, .int n4])), (r1, .inl (cJ, 5, .inr (.inl nb))), (r2, .inr (0, [.int r_40.2.2.2.1, .int r_40.2.2.2.2.1, .int r_40.2.2.2.2.2.1, .int r_40.2.2.2.2.2.2.1, .int r_40.2.2.2.2.2.2.2.1])), (r3, .inr (3, [.int r_40.2.2.2.2.2.2.2.2.1, .int r_40.2.2.2.2.2.2.2.2.2.1, .int r_40.2.2.2.2.2.2.2.2.2.2.1, .int r_40.2.2.2.2.2.2.2.2.2.2.2.1, .int r_40.2.2.2.2.2.2.2.2.2.2.2.2.1, .int r_40.2.2.2.2.2.2.2.2.2.2.2.2.2.1])), (r4, .inr (4, [.ref q0, .ref q1, .ref q2, .ref q3, .ref q4, .ref q5, .int r_40.2.2.2.2.2.2.2.2.2.2.2.2.2.2.1])), (q0, .inl (cI, 300, .inl r_40.2.2.2.2.2.2.2.2.2.2.2.2.2.2.2.1)), (q1, .inl (cI, 300, .inl r_40.2.2.2.2.2.2.2.2.2.2.2.2.2.2.2.2.1)), (q2, .inl (cI, 300, .inl r_40.2.2.2.2.2.2.2.2.2.2.2.2.2.2.2.2.2.1)), (q3, .inl (cI, 300, .inl r_40.2.2.2.2.2.2.2.2.2.2.2.2.2.2.2.2.2.2.1)), (q4, .inl (cI, 300, .inl r_40.2.2.2.2.2.2.2.2.2.2.2.2.2.2.2.2.2.2.2.1)), (q5, .inl (cI, 300, .inl r_40.2.2.2.2.2.2.2.2.2.2.2.2.2.2.2.2.2.2.2.2))] H := hP
      have hD : va_D A [(h0, .inr (2, [.ref r0, .ref r1, .ref r2, .ref r3, .ref r4, .int r_40.1, .int ss, .int 1, .int li, .int r_40.2.1, .int r_40.2.2.1])), (r0, .inr (1, [.int n0, .int n1, .long n2, .int n3, .int n4])), (r1, .inl (cJ, 5, .inr (.inl nb))), (r2, .inr (0, [.int r_40.2.2.2.1, .int r_40.2.2.2.2.1, .int r_40.2.2.2.2.2.1, .int r_40.2.2.2.2.2.2.1, .int r_40.2.2.2.2.2.2.2.1])), (r3, .inr (3, [.int r_40.2.2.2.2.2.2.2.2.1, .int r_40.2.2.2.2.2.2.2.2.2.1, .int r_40.2.2.2.2.2.2.2.2.2.2.1, .int r_40.2.2.2.2.2.2.2.2.2.2.2.1, .int r_40.2.2.2.2.2.2.2.2.2.2.2.2.1, .int r_40.2.2.2.2.2.2.2.2.2.2.2.2.2.1])), (r4, .inr (4, [.ref q0, .ref q1, .ref q2, .ref q3, .ref q4, .ref q5, .int r_40.2.2.2.2.2.2.2.2.2.2.2.2.2.2.1])), (q0, .inl (cI, 300, .inl r_40.2.2.2.2.2.2.2.2.2.2.2.2.2.2.2.1)), (q1, .inl (cI, 300, .inl r_40.2.2.2.2.2.2.2.2.2.2.2.2.2.2.2.2.1)), (q2, .inl (cI, 300, .inl r_40.2.2.2.2.2.2.2.2.2.2.2.2.2.2.2.2.2.1)), (q3, .inl (cI, 300, .inl r_40.2.2.2.2.2.2.2.2.2.2.2.2.2.2.2.2.2.2.1)), (q4, .inl (cI, 300, .inl r_40.2.2.2.2.2.2.2.2.2.2.2.2.2.2.2.2.2.2.2.1)), (q5, .inl (cI, 300, .inl r_40.2.2.2.2.2.2.2.2.2.2.2.2.2.2.2.2.2.2.2.2))] := hD
      refine lv_goto (tgt := 71) hx hb dX2_takeCharacter_37 (by decide) ?_
      have e_41 : 0 ≤ (r_40.2.2.2.2.2.2.2.2.2.2.2.2.2.2.1 : Int32).toInt ∧ (r_40.2.2.2.2.2.2.2.2.2.2.2.2.2.2.1 : Int32).toInt ≤ 300 := by
        have k_42 : (0 : Int32).toInt = 0 := by decide
        have q_43 := i_lt c_2
        have k_44 : (44 : Int32).toInt = 44 := by decide
        have q_45 := i_eq c_3
        try generalize Int32.toInt r_40.2.2.2.2.2.2.2.2.2.2.2.2.2.2.1 = z0 at *
        try generalize Int32.toInt r_40.1 = z1 at *
        try generalize Int32.toInt r_1 = z2 at *
        try generalize Int32.toInt (44 : Int32) = z3 at *
        try generalize Int32.toInt cn = z4 at *
        try generalize Int32.toInt nc = z5 at *
        try generalize Int32.toInt (0 : Int32) = z6 at *
        try generalize Int32.toInt x = z7 at *
        omega
      have e_46 : 0 ≤ (r_40.1 : Int32).toInt ∧ (r_40.1 : Int32).toInt ≤ nc.toInt + 1 := by
        have k_47 : (0 : Int32).toInt = 0 := by decide
        have q_48 := i_lt c_2
        have k_49 : (44 : Int32).toInt = 44 := by decide
        have q_50 := i_eq c_3
        try generalize Int32.toInt r_40.2.2.2.2.2.2.2.2.2.2.2.2.2.2.1 = z0 at *
        try generalize Int32.toInt r_40.1 = z1 at *
        try generalize Int32.toInt r_1 = z2 at *
        try generalize Int32.toInt (44 : Int32) = z3 at *
        try generalize Int32.toInt cn = z4 at *
        try generalize Int32.toInt nc = z5 at *
        try generalize Int32.toInt (0 : Int32) = z6 at *
        try generalize Int32.toInt x = z7 at *
        omega
      subst hR
      exact W.vret hx hb hr (fun t ht hW => ⟨⟨(), rfl, ⟨e_41, e_46⟩, by rw [ht]; exact hP, hD⟩, hS.F ht⟩) hS.2.2 dX2_takeCharacter_71
  · rw [if_neg c_2] at hR
    refine lv_aload_n hx hb dX2_takeCharacter_11 rfl (lv_at hl 1 rfl) ?_
    refine lv_iload_n hx hb dX2_takeCharacter_12 rfl (lv_at hl 0 rfl) ?_
    refine lv_iload_n hx hb dX2_takeCharacter_13 rfl (lv_at hl 3 rfl) ?_
    have p_51 : 0 ≤ nc.toInt := by
      first | exact hc0 | assumption
    have p_52 : nc.toInt ≤ 3000 := by
      have k_53 : (0 : Int32).toInt = 0 := by decide
      have q_54 := i_nlt c_2
      try generalize Int32.toInt r_1 = z0 at *
      try generalize Int32.toInt cn = z1 at *
      try generalize Int32.toInt nc = z2 at *
      try generalize Int32.toInt (0 : Int32) = z3 at *
      first | omega | exact ⟨by omega, by omega⟩
    have hPc := hP.sub (ws' := [(h0, .inr (2, [.ref r0, .ref r1, .ref r2, .ref r3, .ref r4, .int nc, .int ss, .int ib, .int li, .int ff, .int fp])), (r0, .inr (1, [.int n0, .int n1, .long n2, .int n3, .int n4])), (r1, .inl (cJ, 5, .inr (.inl nb)))]) [0, 1, 2] rfl
    have hDc := hD.sub (ws' := [(h0, .inr (2, [.ref r0, .ref r1, .ref r2, .ref r3, .ref r4, .int nc, .int ss, .int ib, .int li, .int ff, .int fp])), (r0, .inr (1, [.int n0, .int n1, .long n2, .int n3, .int n4])), (r1, .inl (cJ, 5, .inr (.inl nb)))]) [0, 1, 2] (by decide) rfl
    have hFc := va_free (wc := [(h0, .inr (2, [.ref r0, .ref r1, .ref r2, .ref r3, .ref r4, .int nc, .int ss, .int ib, .int li, .int ff, .int fp])), (r0, .inr (1, [.int n0, .int n1, .long n2, .int n3, .int n4])), (r1, .inl (cJ, 5, .inr (.inl nb)))]) hD hS hA [0, 1, 2] rfl
    refine va_callv (va_runV (As := [.int r_1, .int y]) (rest := []) ⟨hx, hb, hml, hown, hts⟩ (c_X2_takeDigit l dC dI cB cC cI cJ H.size h0 r0 r1 r2 r3 r4 nc ss ib li ff fp n0 n1 n2 n3 n4 nb r_1 y p_51 p_52) (cwV 2 hts gX2_takeCharacter_X2_takeDigit rfl rfl rfl (by decide +kernel) ⟨(Nat.le_of_ble_eq_true rfl), (Nat.le_of_ble_eq_true rfl)⟩) ⟨cP_blind, va_recv hG.1 hPc (ci := 2) (q0 := 0) rfl rfl, cP_pre hPc hG hDc⟩ rfl rfl hl.1 rfl (lv_room (Nat.le_of_ble_eq_true rfl)) dX2_takeCharacter_14 ⟨Nat.le_of_ble_eq_true rfl, Nat.le_of_ble_eq_true rfl⟩) hS (fun q _ h => hFc q h) hFc (fun u t H1 locs ht hvm hw hB hz1 hk1 hS => ?_)
    obtain ⟨hP1, hD1⟩ := hB
    rw [ht] at hP1
    generalize hr_55 : fX2_takeDigit nc ss ib li ff fp n0 n1 n2 n3 n4 nb r_1 y = r_55 at hP1 hD1 hw
    have er_55_0 := hw
    rw [bnd_eq hr_55] at hR
    obtain ⟨hP, hD⟩ := va_join (wr := [(r2, .inr (0, [.int a0, .int a1, .int a2, .int a3, .int a4])), (r3, .inr (3, [.int g0, .int g1, .int g2, .int g3, .int g4, .int g5])), (r4, .inr (4, [.ref q0, .ref q1, .ref q2, .ref q3, .ref q4, .ref q5, .int cn])), (q0, .inl (cI, 300, .inl t0)), (q1, .inl (cI, 300, .inl t1)), (q2, .inl (cI, 300, .inl t2)), (q3, .inl (cI, 300, .inl t3)), (q4, .inl (cI, 300, .inl t4)), (q5, .inl (cI, 300, .inl t5))]) (w1 := [(h0, .inr (2, [.ref r0, .ref r1, .ref r2, .ref r3, .ref r4, .int r_55.1, .int r_55.2.1, .int ib, .int li, .int r_55.2.2.1, .int r_55.2.2.2.1])), (r0, .inr (1, [.int r_55.2.2.2.2.1, .int r_55.2.2.2.2.2.1, .long r_55.2.2.2.2.2.2.1, .int r_55.2.2.2.2.2.2.2.1, .int r_55.2.2.2.2.2.2.2.2.1])), (r1, .inl (cJ, 5, .inr (.inl r_55.2.2.2.2.2.2.2.2.2)))]) hP hD [0, 1, 2] [3, 4, 5, 6, 7, 8, 9, 10, 11] rfl rfl (by decide) (by decide) hk1 hFc hP1 hD1
    generalize H1 = H at hP hS ⊢
    have hP := hP.sub (ws' := [(h0, .inr (2, [.ref r0, .ref r1, .ref r2, .ref r3, .ref r4, .int r_55.1, .int r_55.2.1, .int ib, .int li, .int r_55.2.2.1, .int r_55.2.2.2.1])), (r0, .inr (1, [.int r_55.2.2.2.2.1, .int r_55.2.2.2.2.2.1, .long r_55.2.2.2.2.2.2.1, .int r_55.2.2.2.2.2.2.2.1, .int r_55.2.2.2.2.2.2.2.2.1])), (r1, .inl (cJ, 5, .inr (.inl r_55.2.2.2.2.2.2.2.2.2))), (r2, .inr (0, [.int a0, .int a1, .int a2, .int a3, .int a4])), (r3, .inr (3, [.int g0, .int g1, .int g2, .int g3, .int g4, .int g5])), (r4, .inr (4, [.ref q0, .ref q1, .ref q2, .ref q3, .ref q4, .ref q5, .int cn])), (q0, .inl (cI, 300, .inl t0)), (q1, .inl (cI, 300, .inl t1)), (q2, .inl (cI, 300, .inl t2)), (q3, .inl (cI, 300, .inl t3)), (q4, .inl (cI, 300, .inl t4)), (q5, .inl (cI, 300, .inl t5))]) [9, 10, 11, 0, 1, 2, 3, 4, 5, 6, 7, 8] rfl
    have hD := hD.sub (ws' := [(h0, .inr (2, [.ref r0, .ref r1, .ref r2, .ref r3, .ref r4, .int r_55.1, .int r_55.2.1, .int ib, .int li, .int r_55.2.2.1, .int r_55.2.2.2.1])), (r0, .inr (1, [.int r_55.2.2.2.2.1, .int r_55.2.2.2.2.2.1, .long r_55.2.2.2.2.2.2.1, .int r_55.2.2.2.2.2.2.2.1, .int r_55.2.2.2.2.2.2.2.2.1])), (r1, .inl (cJ, 5, .inr (.inl r_55.2.2.2.2.2.2.2.2.2))), (r2, .inr (0, [.int a0, .int a1, .int a2, .int a3, .int a4])), (r3, .inr (3, [.int g0, .int g1, .int g2, .int g3, .int g4, .int g5])), (r4, .inr (4, [.ref q0, .ref q1, .ref q2, .ref q3, .ref q4, .ref q5, .int cn])), (q0, .inl (cI, 300, .inl t0)), (q1, .inl (cI, 300, .inl t1)), (q2, .inl (cI, 300, .inl t2)), (q3, .inl (cI, 300, .inl t3)), (q4, .inl (cI, 300, .inl t4)), (q5, .inl (cI, 300, .inl t5))]) [9, 10, 11, 0, 1, 2, 3, 4, 5, 6, 7, 8] (by decide) rfl
    refine lv_goto (tgt := 71) hx hb dX2_takeCharacter_17 (by decide) ?_
    have e_56 : 0 ≤ (cn : Int32).toInt ∧ (cn : Int32).toInt ≤ 300 := by
      have k_57 : (0 : Int32).toInt = 0 := by decide
      have q_58 := i_nlt c_2
      try generalize Int32.toInt r_55.1 = z0 at *
      try generalize Int32.toInt r_1 = z1 at *
      try generalize Int32.toInt cn = z2 at *
      try generalize Int32.toInt nc = z3 at *
      try generalize Int32.toInt (0 : Int32) = z4 at *
      omega
    have e_59 : 0 ≤ (r_55.1 : Int32).toInt ∧ (r_55.1 : Int32).toInt ≤ nc.toInt + 1 := by
      have k_60 : (0 : Int32).toInt = 0 := by decide
      have q_61 := i_nlt c_2
      try generalize Int32.toInt r_55.1 = z0 at *
      try generalize Int32.toInt r_1 = z1 at *
      try generalize Int32.toInt cn = z2 at *
      try generalize Int32.toInt nc = z3 at *
      try generalize Int32.toInt (0 : Int32) = z4 at *
      omega
    subst hR
    exact W.vret hx hb hr (fun t ht hW => ⟨⟨(), rfl, ⟨e_56, e_59⟩, by rw [ht]; exact hP, hD⟩, hS.F ht⟩) hS.2.2 dX2_takeCharacter_71
