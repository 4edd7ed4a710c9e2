def fX2_readTape_6 (nc ss ib li ff fp : Int32) (n0 n1 : Int32) (n2 : Int64) (n3 n4 : Int32) (nb : Nat → Int64) (a0 a1 a2 a3 a4 : Int32) (g0 g1 g2 g3 g4 g5 : Int32) (cn : Int32) (t0 t1 t2 t3 t4 t5 : Nat → Int32) (bt : Nat → Int32) (ln : Int32) : Nat → Int32 → Int32 → Int32 → Int32 → Int32 → Int32 → Int32 → Int32 → Int32 → Int64 → Int32 → Int32 → (Nat → Int64) → Int32 → Int32 → Int32 → Int32 → Int32 → Int32 → Int32 → Int32 → Int32 → Int32 → Int32 → Int32 → (Nat → Int32) → (Nat → Int32) → (Nat → Int32) → (Nat → Int32) → (Nat → Int32) → (Nat → Int32) → Int32 × Int32 × Int32 × Int32 × Int32 × Int32 × Int32 × Int32 × Int64 × Int32 × Int32 × (Nat → Int64) × Int32 × Int32 × Int32 × Int32 × Int32 × Int32 × Int32 × Int32 × Int32 × Int32 × Int32 × Int32 × (Nat → Int32) × (Nat → Int32) × (Nat → Int32) × (Nat → Int32) × (Nat → Int32) × (Nat → Int32)
  | 0, _, _, _, _, _, _, _, _, _, _, _, _, _, _, _, _, _, _, _, _, _, _, _, _, _, _, _, _, _, _, _ => (0, 0, 0, 0, 0, 0, 0, 0, 0, 0, 0, (fun _ => 0), 0, 0, 0, 0, 0, 0, 0, 0, 0, 0, 0, 0, (fun _ => 0), (fun _ => 0), (fun _ => 0), (fun _ => 0), (fun _ => 0), (fun _ => 0))
  | n + 1, k, ncz, ssz, ibz, liz, ffz, fpz, n0z, n1z, n2z, n3z, n4z, nbz, a0z, a1z, a2z, a3z, a4z, g0z, g1z, g2z, g3z, g4z, g5z, cnz, t0z, t1z, t2z, t3z, t4z, t5z =>
    if ln ≤ k then
      if ffz = 0 then
        bnd (fX2_endSegment ncz ssz ibz liz ffz fpz n0z n1z n2z n3z n4z nbz a0z a1z a2z a3z a4z g0z g1z g2z g3z g4z g5z cnz t0z t1z t2z t3z t4z t5z 0 ln) fun r_9 =>
        (r_9.1, ssz, ibz, liz, r_9.2.1, r_9.2.2.1, n0z, n1z, n2z, n3z, n4z, nbz, r_9.2.2.2.1, r_9.2.2.2.2.1, r_9.2.2.2.2.2.1, r_9.2.2.2.2.2.2.1, r_9.2.2.2.2.2.2.2.1, r_9.2.2.2.2.2.2.2.2.1, r_9.2.2.2.2.2.2.2.2.2.1, r_9.2.2.2.2.2.2.2.2.2.2.1, r_9.2.2.2.2.2.2.2.2.2.2.2.1, r_9.2.2.2.2.2.2.2.2.2.2.2.2.1, r_9.2.2.2.2.2.2.2.2.2.2.2.2.2.1, r_9.2.2.2.2.2.2.2.2.2.2.2.2.2.2.1, r_9.2.2.2.2.2.2.2.2.2.2.2.2.2.2.2.1, r_9.2.2.2.2.2.2.2.2.2.2.2.2.2.2.2.2.1, r_9.2.2.2.2.2.2.2.2.2.2.2.2.2.2.2.2.2.1, r_9.2.2.2.2.2.2.2.2.2.2.2.2.2.2.2.2.2.2.1, r_9.2.2.2.2.2.2.2.2.2.2.2.2.2.2.2.2.2.2.2.1, r_9.2.2.2.2.2.2.2.2.2.2.2.2.2.2.2.2.2.2.2.2)
      else
        (ncz, ssz, ibz, liz, ffz, fpz, n0z, n1z, n2z, n3z, n4z, nbz, a0z, a1z, a2z, a3z, a4z, g0z, g1z, g2z, g3z, g4z, g5z, cnz, t0z, t1z, t2z, t3z, t4z, t5z)
    else
      if ffz = 0 then
        bnd (fX5_characterAt bt ln k) fun r_26 =>
        bnd (fX2_takeCharacter ncz ssz ibz liz ffz fpz n0z n1z n2z n3z n4z nbz a0z a1z a2z a3z a4z g0z g1z g2z g3z g4z g5z cnz t0z t1z t2z t3z t4z t5z r_26 k) fun r_34 =>
        fX2_readTape_6 nc ss ib li ff fp n0 n1 n2 n3 n4 nb a0 a1 a2 a3 a4 g0 g1 g2 g3 g4 g5 cn t0 t1 t2 t3 t4 t5 bt ln n (k + 1) r_34.1 r_34.2.1 r_34.2.2.1 r_34.2.2.2.1 r_34.2.2.2.2.1 r_34.2.2.2.2.2.1 r_34.2.2.2.2.2.2.1 r_34.2.2.2.2.2.2.2.1 r_34.2.2.2.2.2.2.2.2.1 r_34.2.2.2.2.2.2.2.2.2.1 r_34.2.2.2.2.2.2.2.2.2.2.1 r_34.2.2.2.2.2.2.2.2.2.2.2.1 r_34.2.2.2.2.2.2.2.2.2.2.2.2.1 r_34.2.2.2.2.2.2.2.2.2.2.2.2.2.1 r_34.2.2.2.2.2.2.2.2.2.2.2.2.2.2.1 r_34.2.2.2.2.2.2.2.2.2.2.2.2.2.2.2.1 r_34.2.2.2.2.2.2.2.2.2.2.2.2.2.2.2.2.1 r_34.2.2.2.2.2.2.2.2.2.2.2.2.2.2.2.2.2.1 r_34.2.2.2.2.2.2.2.2.2.2.2.2.2.2.2.2.2.2.1 r_34.2.2.2.2.2.2.2.2.2.2.2.2.2.2.2.2.2.2.2.1 r_34.2.2.2.2.2.2.2.2.2.2.2.2.2.2.2.2.2.2.2.2.1 r_34.2.2.2.2.2.2.2.2.2.2.2.2.2.2.2.2.2.2.2.2.2.1 r_34.2.2.2.2.2.2.2.2.2.2.2.2.2.2.2.2.2.2.2.2.2.2.1 r_34.2.2.2.2.2.2.2.2.2.2.2.2.2.2.2.2.2.2.2.2.2.2.2.1 r_34.2.2.2.2.2.2.2.2.2.2.2.2.2.2.2.2.2.2.2.2.2.2.2.2.1 r_34.2.2.2.2.2.2.2.2.2.2.2.2.2.2.2.2.2.2.2.2.2.2.2.2.2.1 r_34.2.2.2.2.2.2.2.2.2.2.2.2.2.2.2.2.2.2.2.2.2.2.2.2.2.2.1 r_34.2.2.2.2.2.2.2.2.2.2.2.2.2.2.2.2.2.2.2.2.2.2.2.2.2.2.2.1 r_34.2.2.2.2.2.2.2.2.2.2.2.2.2.2.2.2.2.2.2.2.2.2.2.2.2.2.2.2.1 r_34.2.2.2.2.2.2.2.2.2.2.2.2.2.2.2.2.2.2.2.2.2.2.2.2.2.2.2.2.2
      else
        (ncz, ssz, ibz, liz, ffz, fpz, n0z, n1z, n2z, n3z, n4z, nbz, a0z, a1z, a2z, a3z, a4z, g0z, g1z, g2z, g3z, g4z, g5z, cnz, t0z, t1z, t2z, t3z, t4z, t5z)
def fX2_readTape (nc ss ib li ff fp : Int32) (n0 n1 : Int32) (n2 : Int64) (n3 n4 : Int32) (nb : Nat → Int64) (a0 a1 a2 a3 a4 : Int32) (g0 g1 g2 g3 g4 g5 : Int32) (cn : Int32) (t0 t1 t2 t3 t4 t5 : Nat → Int32) (bt : Nat → Int32) (ln : Int32) : Int32 × Int32 × Int32 × Int32 × Int32 × Int32 × Int32 × Int32 × Int64 × Int32 × Int32 × (Nat → Int64) × Int32 × Int32 × Int32 × Int32 × Int32 × Int32 × Int32 × Int32 × Int32 × Int32 × Int32 × Int32 × (Nat → Int32) × (Nat → Int32) × (Nat → Int32) × (Nat → Int32) × (Nat → Int32) × (Nat → Int32) :=
  bnd (fX2_start nc ss ib li ff fp n0 n1 n2 n3 n4 a0 a1 a2 a3 a4 cn) fun r_74 =>
  fX2_readTape_6 nc ss ib li ff fp n0 n1 n2 n3 n4 nb a0 a1 a2 a3 a4 g0 g1 g2 g3 g4 g5 cn t0 t1 t2 t3 t4 t5 bt ln 3001 0 r_74.1 r_74.2.1 r_74.2.2.1 r_74.2.2.2.1 r_74.2.2.2.2.1 r_74.2.2.2.2.2.1 r_74.2.2.2.2.2.2.1 n1 n2 n3 n4 nb r_74.2.2.2.2.2.2.2.1 r_74.2.2.2.2.2.2.2.2.1 r_74.2.2.2.2.2.2.2.2.2.1 r_74.2.2.2.2.2.2.2.2.2.2.1 r_74.2.2.2.2.2.2.2.2.2.2.2.1 g0 g1 g2 g3 g4 g5 r_74.2.2.2.2.2.2.2.2.2.2.2.2 t0 t1 t2 t3 t4 t5
theorem inc_X2_readTape_5 : ∀ w ∈ u_ws RX5 TX5 2, w ∈ wsX2_readTape := by decide +kernel
theorem inc_X2_readTape_2 : ∀ w ∈ u_ws RX2 TX2 11, w ∈ wsX2_readTape := by decide +kernel
set_option maxHeartbeats 4000000 in
set_option maxRecDepth 100000 in
theorem c_X2_readTape (l : Launch) (dC : Nat → ClassId) (dI : Nat → Nat → Nat) (cB cC cI cJ : ClassId) (ak av sz : Nat) (h0 r0 r1 r2 r3 r4 q0 q1 q2 q3 q4 q5 h1 b0 : Nat) (nc ss ib li ff fp : Int32) (n0 n1 : Int32) (n2 : Int64) (n3 n4 : Int32) (nb : Nat → Int64) (a0 a1 a2 a3 a4 : Int32) (g0 g1 g2 g3 g4 g5 : Int32) (cn : Int32) (t0 t1 t2 t3 t4 t5 : Nat → Int32) (bt : Nat → Int32) (ln : Int32) (hl0 : 0 ≤ ln.toInt) (hl1 : ln.toInt ≤ 3000) : Met l yX2_readTape wsX2_readTape ({ frames := 6, cells := 0, slots := 0, locals := 149 } : Room) (cPs dC dI cB cC cI cJ ak av [.ref h0, .ref h1] sz [(h0, .inr (2, [.ref r0, .ref r1, .ref r2, .ref r3, .ref r4, .int nc, .int ss, .int ib, .int li, .int ff, .int fp])), (r0, .inr (1, [.int n0, .int n1, .long n2, .int n3, .int n4])), (r1, .inl (cJ, 5, .inr (.inl nb))), (r2, .inr (0, [.int a0, .int a1, .int a2, .int a3, .int a4])), (r3, .inr (3, [.int g0, .int g1, .int g2, .int g3, .int g4, .int g5])), (r4, .inr (4, [.ref q0, .ref q1, .ref q2, .ref q3, .ref q4, .ref q5, .int cn])), (q0, .inl (cI, 300, .inl t0)), (q1, .inl (cI, 300, .inl t1)), (q2, .inl (cI, 300, .inl t2)), (q3, .inl (cI, 300, .inl t3)), (q4, .inl (cI, 300, .inl t4)), (q5, .inl (cI, 300, .inl t5)), (h1, .inr (5, [.ref b0, .int ln])), (b0, .inl (cB, 3000, .inl bt))]) (va_Qv (fun _ => (0 ≤ (fX2_readTape nc ss ib li ff fp n0 n1 n2 n3 n4 nb a0 a1 a2 a3 a4 g0 g1 g2 g3 g4 g5 cn t0 t1 t2 t3 t4 t5 bt ln).2.2.2.2.2.2.2.2.2.2.2.2.2.2.2.2.2.2.2.2.2.2.2.1.toInt ∧ (fX2_readTape nc ss ib li ff fp n0 n1 n2 n3 n4 nb a0 a1 a2 a3 a4 g0 g1 g2 g3 g4 g5 cn t0 t1 t2 t3 t4 t5 bt ln).2.2.2.2.2.2.2.2.2.2.2.2.2.2.2.2.2.2.2.2.2.2.2.1.toInt ≤ 300)) (cE dC dI (va_A [(h0, .inr (2, [.ref r0, .ref r1, .ref r2, .ref r3, .ref r4, .int nc, .int ss, .int ib, .int li, .int ff, .int fp])), (r0, .inr (1, [.int n0, .int n1, .long n2, .int n3, .int n4])), (r1, .inl (cJ, 5, .inr (.inl nb))), (r2, .inr (0, [.int a0, .int a1, .int a2, .int a3, .int a4])), (r3, .inr (3, [.int g0, .int g1, .int g2, .int g3, .int g4, .int g5])), (r4, .inr (4, [.ref q0, .ref q1, .ref q2, .ref q3, .ref q4, .ref q5, .int cn])), (q0, .inl (cI, 300, .inl t0)), (q1, .inl (cI, 300, .inl t1)), (q2, .inl (cI, 300, .inl t2)), (q3, .inl (cI, 300, .inl t3)), (q4, .inl (cI, 300, .inl t4)), (q5, .inl (cI, 300, .inl t5)), (h1, .inr (5, [.ref b0, .int ln])), (b0, .inl (cB, 3000, .inl bt))] sz) [(h0, .inr (2, [.ref r0, .ref r1, .ref r2, .ref r3, .ref r4, .int (fX2_readTape nc ss ib li ff fp n0 n1 n2 n3 n4 nb a0 a1 a2 a3 a4 g0 g1 g2 g3 g4 g5 cn t0 t1 t2 t3 t4 t5 bt ln).1, .int (fX2_readTape nc ss ib li ff fp n0 n1 n2 n3 n4 nb a0 a1 a2 a3 a4 g0 g1 g2 g3 g4 g5 cn t0 t1 t2 t3 t4 t5 bt ln).2.1, .int (fX2_readTape nc ss ib li ff fp n0 n1 n2 n3 n4 nb a0 a1 a2 a3 a4 g0 g1 g2 g3 g4 g5 cn t0 t1 t2 t3 t4 t5 bt ln).2.2.1, .int (fX2_readTape nc ss ib li ff fp n0 n1 n2 n3 n4 nb a0 a1 a2 a3 a4 g0 g1 g2 g3 g4 g5 cn t0 t1 t2 t3 t4 t5 bt ln).2.2.2.1, .int (fX2_readTape nc ss ib li ff fp n0 n1 n2 n3 n4 nb a0 a1 a2 a3 a4 g0 g1 g2 g3 g4 g5 cn t0 t1 t2 t3 t4 t5 bt ln).2.2.2.2.1, .int (fX2_readTape nc ss ib li ff fp n0 n1 n2 n3 n4 nb a0 a1 a2 a3 a4 g0 g1 g2 g3 g4 g5 cn t0 t1 t2 t3 t4 t5 bt ln).2.2.2.2.2.1])), (r0, .inr (1, [.int (fX2_readTape nc ss ib li ff fp n0 n1 n2 n3 n4 nb a0 a1 a2 a3 a4 g0 g1 g2 g3 g4 g5 cn t0 t1 t2 t3 t4 t5 bt ln).2.2.2.2.2.2.1, .int (fX2_readTape nc ss ib li ff fp n0 n1 n2 n3 n4 nb a0 a1 a2 a3 a4 g0 g1 g2 g3 g4 g5 cn t0 t1 t2 t3 t4 t5 bt ln).2.2.2.2.2.2.2.1, .long (fX2_readTape nc ss ib li ff fp n0 n1 n2 n3 n4 nb a0 a1 a2 a3 a4 g0 g1 g2 g3 g4 g5 cn t0 t1 t2 t3 t4 t5 bt ln).2.2.2.2.2.2.2.2.1, .int (fX2_readTape nc ss ib li ff fp n0 n1 n2 n3 n4 nb a0 a1 a2 a3 a4 g0 g1 g2 g3 g4 g5 cn t0 t1 t2 t3 t4 t5 bt ln).2.2.2.2.2.2.2.2.2.1, .int (fX2_readTape nc ss ib li ff fp n0 n1 n2 n3 n4 nb a0 a1 a2 a3 a4 g0 g1 g2 g3 g4 g5 cn t0 t1 t2 t3 t4 t5 bt ln).2.2.2.2.2.2.2.2.2.2.1])), (r1, .inl (cJ, 5, .inr (.inl (fX2_readTape nc ss ib li ff fp n0 n1 n2 n3 n4 nb a0 a1 a2 a3 a4 g0 g1 g2 g3 g4 g5 cn t0 t1 t2 t3 t4 t5 bt ln).2.2.2.2.2.2.2.2.2.2.2.1))), (r2, .inr (0, [.int (fX2_readTape nc ss ib li ff fp n0 n1 n2 n3 n4 nb a0 a1 a2 a3 a4 g0 g1 g2 g3 g4 g5 cn t0 t1 t2 t3 t4 t5 bt ln).2.2.2.2.2.2.2.2.2.2.2.2.1, .int (fX2_readTape nc ss ib li ff fp n0 n1 n2 n3 n4 nb a0 a1 a2 a3 a4 g0 g1 g2 g3 g4 g5 cn t0 t1 t2 t3 t4 t5 bt ln).2.2.2.2.2.2.2.2.2.2.2.2.2.1, .int (fX2_readTape nc ss ib li ff fp n0 n1 n2 n3 n4 nb a0 a1 a2 a3 a4 g0 g1 g2 g3 g4 g5 cn t0 t1 t2 t3 t4 t5 bt ln).2.2.2.2.2.2.2.2.2.2.2.2.2.2.1, .int (fX2_readTape nc ss ib li ff fp n0 n1 n2 n3 n4 nb a0 a1 a2 a3 a4 g0 g1 g2 g3 g4 g5 cn t0 t1 t2 t3 t4 t5 bt ln).2.2.2.2.2.2.2.2.2.2.2.2.2.2.2.1, .int (fX2_readTape nc ss ib li ff fp n0 n1 n2 n3 n4 nb a0 a1 a2 a3 a4 g0 g1 g2 g3 g4 g5 cn t0 t1 t2 t3 t4 t5 bt ln).2.2.2.2.2.2.2.2.2.2.2.2.2.2.2.2.1])), (r3, .inr (3, [.int (fX2_readTape nc ss ib li ff fp n0 n1 n2 n3 n4 nb a0 a1 a2 a3 a4 g0 g1 g2 g3 g4 g5 cn t0 t1 t2 t3 t4 t5 bt ln).2.2.2.2.2.2.2.2.2.2.2.2.2.2.2.2.2.1, .int (fX2_readTape nc ss ib li ff fp n0 n1 n2 n3 n4 nb a0 a1 a2 a3 a4 g0 g1 g2 g3 g4 g5 cn t0 t1 t2 t3 t4 t5 bt ln).2.2.2.2.2.2.2.2.2.2.2.2.2.2.2.2.2.2.1, .int (fX2_readTape nc ss ib li ff fp n0 n1 n2 n3 n4 nb a0 a1 a2 a3 a4 g0 g1 g2 g3 g4 g5 cn t0 t1 t2 t3 t4 t5 bt ln).2.2.2.2.2.2.2.2.2.2.2.2.2.2.2.2.2.2.2.1, .int (fX2_readTape nc ss ib li ff fp n0 n1 n2 n3 n4 nb a0 a1 a2 a3 a4 g0 g1 g2 g3 g4 g5 cn t0 t1 t2 t3 t4 t5 bt ln).2.2.2.2.2.2.2.2.2.2.2.2.2.2.2.2.2.2.2.2.1, .int (fX2_readTape nc ss ib li ff fp n0 n1 n2 n3 n4 nb a0 a1 a2 a3 a4 g0 g1 g2 g3 g4 g5 cn t0 t1 t2 t3 t4 t5 bt ln).2.2.2.2.2.2.2.2.2.2.2.2.2.2.2.2.2.2.2.2.2.1, .int (fX2_readTape nc ss ib li ff fp n0 n1 n2 n3 n4 nb a0 a1 a2 a3 a4 g0 g1 g2 g3 g4 g5 cn t0 t1 t2 t3 t4 t5 bt ln).2.2.2.2.2.2.2.2.2.2.2.2.2.2.2.2.2.2.2.2.2.2.1])), (r4, .inr (4, [.ref q0, .ref q1, .ref q2, .ref q3, .ref q4, .ref q5, .int (fX2_readTape nc ss ib li ff fp n0 n1 n2 n3 n4 nb a0 a1 a2 a3 a4 g0 g1 g2 g3 g4 g5 cn t0 t1 t2 t3 t4 t5 bt ln).2.2.2.2.2.2.2.2.2.2.2.2.2.2.2.2.2.2.2.2.2.2.2.1])), (q0, .inl (cI, 300, .inl (fX2_readTape nc ss ib li ff fp n0 n1 n2 n3 n4 nb a0 a1 a2 a3 a4 g0 g1 g2 g3 g4 g5 cn t0 t1 t2 t3 t4 t5 bt ln).2.2.2.2.2.2.2.2.2.2.2.2.2.2.2.2.2.2.2.2.2.2.2.2.1)), (q1, .inl (cI, 300, .inl (fX2_readTape nc ss ib li ff fp n0 n1 n2 n3 n4 nb a0 a1 a2 a3 a4 g0 g1 g2 g3 g4 g5 cn t0 t1 t2 t3 t4 t5 bt ln).2.2.2.2.2.2.2.2.2.2.2.2.2.2.2.2.2.2.2.2.2.2.2.2.2.1)), (q2, .inl (cI, 300, .inl (fX2_readTape nc ss ib li ff fp n0 n1 n2 n3 n4 nb a0 a1 a2 a3 a4 g0 g1 g2 g3 g4 g5 cn t0 t1 t2 t3 t4 t5 bt ln).2.2.2.2.2.2.2.2.2.2.2.2.2.2.2.2.2.2.2.2.2.2.2.2.2.2.1)), (q3, .inl (cI, 300, .inl (fX2_readTape nc ss ib li ff fp n0 n1 n2 n3 n4 nb a0 a1 a2 a3 a4 g0 g1 g2 g3 g4 g5 cn t0 t1 t2 t3 t4 t5 bt ln).2.2.2.2.2.2.2.2.2.2.2.2.2.2.2.2.2.2.2.2.2.2.2.2.2.2.2.1)), (q4, .inl (cI, 300, .inl (fX2_readTape nc ss ib li ff fp n0 n1 n2 n3 n4 nb a0 a1 a2 a3 a4 g0 g1 g2 g3 g4 g5 cn t0 t1 t2 t3 t4 t5 bt ln).2.2.2.2.2.2.2.2.2.2.2.2.2.2.2.2.2.2.2.2.2.2.2.2.2.2.2.2.1)), (q5, .inl (cI, 300, .inl (fX2_readTape nc ss ib li ff fp n0 n1 n2 n3 n4 nb a0 a1 a2 a3 a4 g0 g1 g2 g3 g4 g5 cn t0 t1 t2 t3 t4 t5 bt ln).2.2.2.2.2.2.2.2.2.2.2.2.2.2.2.2.2.2.2.2.2.2.2.2.2.2.2.2.2)), (h1, .inr (5, [.ref b0, .int ln])), (b0, .inl (cB, 3000, .inl bt))]) (va_A [(h0, .inr (2, [.ref r0, .ref r1, .ref r2, .ref r3, .ref r4, .int nc, .int ss, .int ib, .int li, .int ff, .int fp])), (r0, .inr (1, [.int n0, .int n1, .long n2, .int n3, .int n4])), (r1, .inl (cJ, 5, .inr (.inl nb))), (r2, .inr (0, [.int a0, .int a1, .int a2, .int a3, .int a4])), (r3, .inr (3, [.int g0, .int g1, .int g2, .int g3, .int g4, .int g5])), (r4, .inr (4, [.ref q0, .ref q1, .ref q2, .ref q3, .ref q4, .ref q5, .int cn])), (q0, .inl (cI, 300, .inl t0)), (q1, .inl (cI, 300, .inl t1)), (q2, .inl (cI, 300, .inl t2)), (q3, .inl (cI, 300, .inl t3)), (q4, .inl (cI, 300, .inl t4)), (q5, .inl (cI, 300, .inl t5)), (h1, .inr (5, [.ref b0, .int ln])), (b0, .inl (cB, 3000, .inl bt))] sz)) 0 0 (va_A [(h0, .inr (2, [.ref r0, .ref r1, .ref r2, .ref r3, .ref r4, .int nc, .int ss, .int ib, .int li, .int ff, .int fp])), (r0, .inr (1, [.int n0, .int n1, .long n2, .int n3, .int n4])), (r1, .inl (cJ, 5, .inr (.inl nb))), (r2, .inr (0, [.int a0, .int a1, .int a2, .int a3, .int a4])), (r3, .inr (3, [.int g0, .int g1, .int g2, .int g3, .int g4, .int g5])), (r4, .inr (4, [.ref q0, .ref q1, .ref q2, .ref q3, .ref q4, .ref q5, .int cn])), (q0, .inl (cI, 300, .inl t0)), (q1, .inl (cI, 300, .inl t1)), (q2, .inl (cI, 300, .inl t2)), (q3, .inl (cI, 300, .inl t3)), (q4, .inl (cI, 300, .inl t4)), (q5, .inl (cI, 300, .inl t5)), (h1, .inr (5, [.ref b0, .int ln])), (b0, .inl (cB, 3000, .inl bt))] sz) := by
  refine Met.ofW (cc := cX2_readTape) (maxL := 3) (ret := none) (by decide) rfl ?_
  intro p e s m args below meth c s₁ B hml hv
  obtain ⟨rfl, hsz, hP, hG, hD0, hSK, hSR⟩ := hv
  have hx := B.exec
  have hb := B.bytes
  have hr := B.returns
  have hts := atoms_spec (ws := wsX2_readTape) B.pre
  have hown : s.vm.findClass RX2 = some m.cls := findClass_of_methodNamed B.named
  have hlocks := B.notSynchronized
  subst hsz
  have hD := hD0.self (sz := s.heap.size)
  generalize hAe : va_A [(h0, .inr (2, [.ref r0, .ref r1, .ref r2, .ref r3, .ref r4, .int nc, .int ss, .int ib, .int li, .int ff, .int fp])), (r0, .inr (1, [.int n0, .int n1, .long n2, .int n3, .int n4])), (r1, .inl (cJ, 5, .inr (.inl nb))), (r2, .inr (0, [.int a0, .int a1, .int a2, .int a3, .int a4])), (r3, .inr (3, [.int g0, .int g1, .int g2, .int g3, .int g4, .int g5])), (r4, .inr (4, [.ref q0, .ref q1, .ref q2, .ref q3, .ref q4, .ref q5, .int cn])), (q0, .inl (cI, 300, .inl t0)), (q1, .inl (cI, 300, .inl t1)), (q2, .inl (cI, 300, .inl t2)), (q3, .inl (cI, 300, .inl t3)), (q4, .inl (cI, 300, .inl t4)), (q5, .inl (cI, 300, .inl t5)), (h1, .inr (5, [.ref b0, .int ln])), (b0, .inl (cB, 3000, .inl bt))] s.heap.size = A at hD hSK ⊢
  have hA : ∀ q : Nat, s.heap.size ≤ q → A q := fun q h => by rw [← hAe]; exact Or.inr h
  obtain ⟨H, hH⟩ : ∃ H : Heap, H = s.heap := ⟨_, rfl⟩
  have hS : va_S A s.heap H [] := by rw [hH]; exact va_S.rf
  rw [← hH] at hP ⊢
  generalize hR : fX2_readTape nc ss ib li ff fp n0 n1 n2 n3 n4 nb a0 a1 a2 a3 a4 g0 g1 g2 g3 g4 g5 cn t0 t1 t2 t3 t4 t5 bt ln = R
  unfold fX2_readTape at hR
  have hl := lv_entry ([.ref h0, .ref h1]) (n := 3) (Nat.le_of_ble_eq_true rfl)
  rw [lg_entry_eq]
  generalize (lg_sl ([.ref h0, .ref h1]) ++ List.replicate (3 - (lg_sl ([.ref h0, .ref h1])).length) Slot.unset).toArray = ls at hl ⊢
  have hl : lv_has ls 3 [(0, .ref h0), (1, .ref h1)] := hl
  have loop_6 : ∀ (n : Nat), ∀ (k : Int32) (ncz : Int32) (ssz : Int32) (ibz : Int32) (liz : Int32) (ffz : Int32) (fpz : Int32) (n0z : Int32) (n1z : Int32) (n2z : Int64) (n3z : Int32) (n4z : Int32) (nbz : Nat → Int64) (a0z : Int32) (a1z : Int32) (a2z : Int32) (a3z : Int32) (a4z : Int32) (g0z : Int32) (g1z : Int32) (g2z : Int32) (g3z : Int32) (g4z : Int32) (g5z : Int32) (cnz : Int32) (t0z : Nat → Int32) (t1z : Nat → Int32) (t2z : Nat → Int32) (t3z : Nat → Int32) (t4z : Nat → Int32) (t5z : Nat → Int32) (H : Heap) (locs : List Loc) (ls : Array Slot), fX2_readTape_6 nc ss ib li ff fp n0 n1 n2 n3 n4 nb a0 a1 a2 a3 a4 g0 g1 g2 g3 g4 g5 cn t0 t1 t2 t3 t4 t5 bt ln n k ncz ssz ibz liz ffz fpz n0z n1z n2z n3z n4z nbz a0z a1z a2z a3z a4z g0z g1z g2z g3z g4z g5z cnz t0z t1z t2z t3z t4z t5z = R → (0 ≤ k.toInt) → (k.toInt ≤ ln.toInt) → (0 ≤ cnz.toInt) → (cnz.toInt ≤ 300) → (0 ≤ ncz.toInt) → (ncz.toInt ≤ k.toInt) → (ln.toInt - k.toInt < ((n : Nat) : Int)) → va_P (dC, dI) vwCl [(h0, .inr (2, [.ref r0, .ref r1, .ref r2, .ref r3, .ref r4, .int ncz, .int ssz, .int ibz, .int liz, .int ffz, .int fpz])), (r0, .inr (1, [.int n0z, .int n1z, .long n2z, .int n3z, .int n4z])), (r1, .inl (cJ, 5, .inr (.inl nbz))), (r2, .inr (0, [.int a0z, .int a1z, .int a2z, .int a3z, .int a4z])), (r3, .inr (3, [.int g0z, .int g1z, .int g2z, .int g3z, .int g4z, .int g5z])), (r4, .inr (4, [.ref q0, .ref q1, .ref q2, .ref q3, .ref q4, .ref q5, .int cnz])), (q0, .inl (cI, 300, .inl t0z)), (q1, .inl (cI, 300, .inl t1z)), (q2, .inl (cI, 300, .inl t2z)), (q3, .inl (cI, 300, .inl t3z)), (q4, .inl (cI, 300, .inl t4z)), (q5, .inl (cI, 300, .inl t5z)), (h1, .inr (5, [.ref b0, .int ln])), (b0, .inl (cB, 3000, .inl bt))] H → va_D A [(h0, .inr (2, [.ref r0, .ref r1, .ref r2, .ref r3, .ref r4, .int ncz, .int ssz, .int ibz, .int liz, .int ffz, .int fpz])), (r0, .inr (1, [.int n0z, .int n1z, .long n2z, .int n3z, .int n4z])), (r1, .inl (cJ, 5, .inr (.inl nbz))), (r2, .inr (0, [.int a0z, .int a1z, .int a2z, .int a3z, .int a4z])), (r3, .inr (3, [.int g0z, .int g1z, .int g2z, .int g3z, .int g4z, .int g5z])), (r4, .inr (4, [.ref q0, .ref q1, .ref q2, .ref q3, .ref q4, .ref q5, .int cnz])), (q0, .inl (cI, 300, .inl t0z)), (q1, .inl (cI, 300, .inl t1z)), (q2, .inl (cI, 300, .inl t2z)), (q3, .inl (cI, 300, .inl t3z)), (q4, .inl (cI, 300, .inl t4z)), (q5, .inl (cI, 300, .inl t5z)), (h1, .inr (5, [.ref b0, .int ln])), (b0, .inl (cB, 3000, .inl bt))] → va_S A s.heap H locs → lv_has ls 3 [(0, .ref h0), (1, .ref h1), (2, .int k)] → W p l e (headSpec wsX2_readTape ({ frames := 6, cells := 0, slots := 0, locals := 149 } : Room)).room s m ([.ref h0, .ref h1] : List Value).toArray below meth c H locs 0 0 (MQ below (va_Qv (fun _ => (0 ≤ R.2.2.2.2.2.2.2.2.2.2.2.2.2.2.2.2.2.2.2.2.2.2.2.1.toInt ∧ R.2.2.2.2.2.2.2.2.2.2.2.2.2.2.2.2.2.2.2.2.2.2.2.1.toInt ≤ 300)) (cE dC dI (A) [(h0, .inr (2, [.ref r0, .ref r1, .ref r2, .ref r3, .ref r4, .int R.1, .int R.2.1, .int R.2.2.1, .int R.2.2.2.1, .int R.2.2.2.2.1, .int R.2.2.2.2.2.1])), (r0, .inr (1, [.int R.2.2.2.2.2.2.1, .int R.2.2.2.2.2.2.2.1, .long R.2.2.2.2.2.2.2.2.1, .int R.2.2.2.2.2.2.2.2.2.1, .int R.2.2.2.2.2.2.2.2.2.2.1])), (r1, .inl (cJ, 5, .inr (.inl R.2.2.2.2.2.2.2.2.2.2.2.1))), (r2, .inr (0, [.int R.2.2.2.2.2.2.2.2.2.2.2.2.1, .int R.2.2.2.2.2.2.2.2.2.2.2.2.2.1, .int R.2.2.2.2.2.2.2.2.2.2.2.2.2.2.1, .int R.2.2.2.2.2.2.2.2.2.2.2.2.2.2.2.1, .int R.2.2.2.2.2.2.2.2.2.2.2.2.2.2.2.2.1])), (r3, .inr (3, [.int R.2.2.2.2.2.2.2.2.2.2.2.2.2.2.2.2.2.1, .int R.2.2.2.2.2.2.2.2.2.2.2.2.2.2.2.2.2.2.1, .int R.2.2.2.2.2.2.2.2.2.2.2.2.2.2.2.2.2.2.2.1, .int R.2.2.2.2.2.2.2.2.2.2.2.2.2.2.2.2.2.2.2.2.1, .int R.2.2.2.2.2.2.2.2.2.2.2.2.2.2.2.2.2.2.2.2.2.1, .int R.2.2.2.2.2.2.2.2.2.2.2.2.2.2.2.2.2.2.2.2.2.2.1])), (r4, .inr (4, [.ref q0, .ref q1, .ref q2, .ref q3, .ref q4, .ref q5, .int R.2.2.2.2.2.2.2.2.2.2.2.2.2.2.2.2.2.2.2.2.2.2.2.1])), (q0, .inl (cI, 300, .inl R.2.2.2.2.2.2.2.2.2.2.2.2.2.2.2.2.2.2.2.2.2.2.2.2.1)), (q1, .inl (cI, 300, .inl R.2.2.2.2.2.2.2.2.2.2.2.2.2.2.2.2.2.2.2.2.2.2.2.2.2.1)), (q2, .inl (cI, 300, .inl R.2.2.2.2.2.2.2.2.2.2.2.2.2.2.2.2.2.2.2.2.2.2.2.2.2.2.1)), (q3, .inl (cI, 300, .inl R.2.2.2.2.2.2.2.2.2.2.2.2.2.2.2.2.2.2.2.2.2.2.2.2.2.2.2.1)), (q4, .inl (cI, 300, .inl R.2.2.2.2.2.2.2.2.2.2.2.2.2.2.2.2.2.2.2.2.2.2.2.2.2.2.2.2.1)), (q5, .inl (cI, 300, .inl R.2.2.2.2.2.2.2.2.2.2.2.2.2.2.2.2.2.2.2.2.2.2.2.2.2.2.2.2.2)), (h1, .inr (5, [.ref b0, .int ln])), (b0, .inl (cB, 3000, .inl bt))]) (A)) ([.ref h0, .ref h1] : List Value).toArray s 0 0 A) (F0 m 6 ls []) := by
    intro n
    induction n with
    | zero => intro k ncz ssz ibz liz ffz fpz n0z n1z n2z n3z n4z nbz a0z a1z a2z a3z a4z g0z g1z g2z g3z g4z g5z cnz t0z t1z t2z t3z t4z t5z H locs ls hR hk0 hk1 hq0 hq1 hc0 hc1 hmu; exfalso; omega
    | succ n ih =>
      intro k ncz ssz ibz liz ffz fpz n0z n1z n2z n3z n4z nbz a0z a1z a2z a3z a4z g0z g1z g2z g3z g4z g5z cnz t0z t1z t2z t3z t4z t5z H locs ls hR hk0 hk1 hq0 hq1 hc0 hc1 hmu hP hD hS hl
      rw [fX2_readTape_6] at hR
      refine lv_iload_n hx hb dX2_readTape_6 rfl (lv_at hl 2 rfl) ?_
      refine lv_aload_n hx hb dX2_readTape_7 rfl (lv_at hl 1 rfl) ?_
      refine va_getN (D := (dC, dI)) (ci := 5) (v := .int ln) (C := RX5) (T := TX5) (N := 2) hx hb hts inc_X2_readTape_5 hown hG.1 hP 12 rfl rfl 1 (by decide) (hG.nf (a := RX2) (i := 46) (b := "MappingDesk$Tape") (n := "length") (d := "I") (t := "MappingDesk") (by decide +kernel)) (fun _ h9 => h9) rfl dX2_readTape_8 ?_
      refine lv_icmp_ge (tgt := 37) hx hb dX2_readTape_11 (by decide) (fun c_1 => ?_) (fun c_1 => ?_)
      · rw [if_pos c_1] at hR
        refine lv_aload_n hx hb dX2_readTape_37 rfl (lv_at hl 0 rfl) ?_
        refine va_get (D := (dC, dI)) (ci := 2) (v := .int ffz) (C := RX2) (T := TX2) (N := 11) hx hb hts inc_X2_readTape_2 hown hG.1 hP 0 rfl rfl 9 (by decide) (hts (.fieldLink RX2 52 "MappingDesk$Reader" "faultFound" "I") (by decide +kernel)) (fun _ h9 => h9) rfl dX2_readTape_38 ?_
        refine lv_if_ne (tgt := 53) hx hb dX2_readTape_41 (by decide) (fun c_2 => ?_) (fun c_2 => ?_)
        · rw [if_neg c_2] at hR
          have e_3 : 0 ≤ (cnz : Int32).toInt ∧ (cnz : Int32).toInt ≤ 300 := by
            have q_4 := i_le c_1
            have k_5 : (0 : Int32).toInt = 0 := by decide
            have q_6 := i_ne c_2
            try generalize Int32.toInt cnz = z0 at *
            try generalize Int32.toInt ffz = z1 at *
            try generalize Int32.toInt ncz = z2 at *
            try generalize Int32.toInt ln = z3 at *
            try generalize Int32.toInt (0 : Int32) = z4 at *
            try generalize Int32.toInt k = z5 at *
            omega
          subst hR
          exact W.vret hx hb hr (fun t ht hW => ⟨⟨(), rfl, e_3, by rw [ht]; exact hP, hD⟩, hS.F ht⟩) hS.2.2 dX2_readTape_53
        · rw [if_pos c_2] at hR
          refine lv_aload_n hx hb dX2_readTape_44 rfl (lv_at hl 0 rfl) ?_
          refine lv_iconst (v := 0) hx hb dX2_readTape_45 (by decide) ?_
          refine lv_aload_n hx hb dX2_readTape_46 rfl (lv_at hl 1 rfl) ?_
          refine va_getN (D := (dC, dI)) (ci := 5) (v := .int ln) (C := RX5) (T := TX5) (N := 2) hx hb hts inc_X2_readTape_5 hown hG.1 hP 12 rfl rfl 1 (by decide) (hG.nf (a := RX2) (i := 46) (b := "MappingDesk$Tape") (n := "length") (d := "I") (t := "MappingDesk") (by decide +kernel)) (fun _ h9 => h9) rfl dX2_readTape_47 ?_
          have p_7 : 0 ≤ cnz.toInt := by
            first | exact hq0 | assumption
          have p_8 : cnz.toInt ≤ 300 := by
            first | exact hq1 | assumption
          have hPc := hP.sub (ws' := [(h0, .inr (2, [.ref r0, .ref r1, .ref r2, .ref r3, .ref r4, .int ncz, .int ssz, .int ibz, .int liz, .int ffz, .int fpz])), (r0, .inr (1, [.int n0z, .int n1z, .long n2z, .int n3z, .int n4z])), (r1, .inl (cJ, 5, .inr (.inl nbz))), (r2, .inr (0, [.int a0z, .int a1z, .int a2z, .int a3z, .int a4z])), (r3, .inr (3, [.int g0z, .int g1z, .int g2z, .int g3z, .int g4z, .int g5z])), (r4, .inr (4, [.ref q0, .ref q1, .ref q2, .ref q3, .ref q4, .ref q5, .int cnz])), (q0, .inl (cI, 300, .inl t0z)), (q1, .inl (cI, 300, .inl t1z)), (q2, .inl (cI, 300, .inl t2z)), (q3, .inl (cI, 300, .inl t3z)), (q4, .inl (cI, 300, .inl t4z)), (q5, .inl (cI, 300, .inl t5z))]) [0, 1, 2, 3, 4, 5, 6, 7, 8, 9, 10, 11] rfl
          have hDc := hD.sub (ws' := [(h0, .inr (2, [.ref r0, .ref r1, .ref r2, .ref r3, .ref r4, .int ncz, .int ssz, .int ibz, .int liz, .int ffz, .int fpz])), (r0, .inr (1, [.int n0z, .int n1z, .long n2z, .int n3z, .int n4z])), (r1, .inl (cJ, 5, .inr (.inl nbz))), (r2, .inr (0, [.int a0z, .int a1z, .int a2z, .int a3z, .int a4z])), (r3, .inr (3, [.int g0z, .int g1z, .int g2z, .int g3z, .int g4z, .int g5z])), (r4, .inr (4, [.ref q0, .ref q1, .ref q2, .ref q3, .ref q4, .ref q5, .int cnz])), (q0, .inl (cI, 300, .inl t0z)), (q1, .inl (cI, 300, .inl t1z)), (q2, .inl (cI, 300, .inl t2z)), (q3, .inl (cI, 300, .inl t3z)), (q4, .inl (cI, 300, .inl t4z)), (q5, .inl (cI, 300, .inl t5z))]) [0, 1, 2, 3, 4, 5, 6, 7, 8, 9, 10, 11] (by decide) rfl
          have hFc := va_free (wc := [(h0, .inr (2, [.ref r0, .ref r1, .ref r2, .ref r3, .ref r4, .int ncz, .int ssz, .int ibz, .int liz, .int ffz, .int fpz])), (r0, .inr (1, [.int n0z, .int n1z, .long n2z, .int n3z, .int n4z])), (r1, .inl (cJ, 5, .inr (.inl nbz))), (r2, .inr (0, [.int a0z, .int a1z, .int a2z, .int a3z, .int a4z])), (r3, .inr (3, [.int g0z, .int g1z, .int g2z, .int g3z, .int g4z, .int g5z])), (r4, .inr (4, [.ref q0, .ref q1, .ref q2, .ref q3, .ref q4, .ref q5, .int cnz])), (q0, .inl (cI, 300, .inl t0z)), (q1, .inl (cI, 300, .inl t1z)), (q2, .inl (cI, 300, .inl t2z)), (q3, .inl (cI, 300, .inl t3z)), (q4, .inl (cI, 300, .inl t4z)), (q5, .inl (cI, 300, .inl t5z))]) hD hS hA [0, 1, 2, 3, 4, 5, 6, 7, 8, 9, 10, 11] rfl
          refine va_callv (va_runV (As := [.int 0, .int ln]) (rest := []) ⟨hx, hb, hml, hown, hts⟩ (c_X2_endSegment l dC dI cB cC cI cJ H.size h0 r0 r1 r2 r3 r4 q0 q1 q2 q3 q4 q5 ncz ssz ibz liz ffz fpz n0z n1z n2z n3z n4z nbz a0z a1z a2z a3z a4z g0z g1z g2z g3z g4z g5z cnz t0z t1z t2z t3z t4z t5z 0 ln p_7 p_8) (cwV 2 hts gX2_readTape_X2_endSegment rfl rfl rfl (by decide +kernel) ⟨(Nat.le_of_ble_eq_true rfl), (Nat.le_of_ble_eq_true rfl)⟩) ⟨cP_blind, va_recv hG.1 hPc (ci := 2) (q0 := 0) rfl rfl, cP_pre hPc hG hDc⟩ rfl rfl hl.1 rfl (lv_room (Nat.le_of_ble_eq_true rfl)) dX2_readTape_50 ⟨Nat.le_of_ble_eq_true rfl, Nat.le_of_ble_eq_true rfl⟩) hS (fun q _ h => hFc q h) hFc (fun u t H1 locs ht hvm hw hB hz1 hk1 hS => ?_)
          obtain ⟨hP1, hD1⟩ := hB
          rw [ht] at hP1
          generalize hr_9 : fX2_endSegment ncz ssz ibz liz ffz fpz n0z n1z n2z n3z n4z nbz a0z a1z a2z a3z a4z g0z g1z g2z g3z g4z g5z cnz t0z t1z t2z t3z t4z t5z 0 ln = r_9 at hP1 hD1 hw
          obtain ⟨er_9_0, er_9_1⟩ := hw
          rw [bnd_eq hr_9] at hR
          obtain ⟨hP, hD⟩ := va_join (wr := [(h1, .inr (5, [.ref b0, .int ln])), (b0, .inl (cB, 3000, .inl bt))]) (w1 := [(h0, .inr (2, [.ref r0, .ref r1, .ref r2, .ref r3, .ref r4, .int r_9.1, .int ssz, .int ibz, .int liz, .int r_9.2.1, .int r_9.2.2.1])), (r0, .inr (1, [.int n0z, .int n1z, .long n2z, .int n3z, .int n4z])), (r1, .inl (cJ, 5, .inr (.inl nbz))), (r2, .inr (0, [.int r_9.2.2.2.1, .int r_9.2.2.2.2.1, .int r_9.2.2.2.2.2.1, .int r_9.2.2.2.2.2.2.1, .int r_9.2.2.2.2.2.2.2.1])), (r3, .inr (3, [.int r_9.2.2.2.2.2.2.2.2.1, .int r_9.2.2.2.2.2.2.2.2.2.1, .int r_9.2.2.2.2.2.2.2.2.2.2.1, .int r_9.2.2.2.2.2.2.2.2.2.2.2.1, .int r_9.2.2.2.2.2.2.2.2.2.2.2.2.1, .int r_9.2.2.2.2.2.2.2.2.2.2.2.2.2.1])), (r4, .inr (4, [.ref q0, .ref q1, .ref q2, .ref q3, .ref q4, .ref q5, .int r_9.2.2.2.2.2.2.2.2.2.2.2.2.2.2.1])), (q0, .inl (cI, 300, .inl r_9.2.2.2.2.2.2.2.2.2.2.2.2.2.2.2.1)), (q1, .inl (cI, 300, .inl r_9.2.2.2.2.2.2.2.2.2.2.2.2.2.2.2.2.1)), (q2, .inl (cI, 300, .inl r_9.2.2.2.2.2.2.2.2.2.2.2.2.2.2.2.2.2.1)), (q3, .inl (cI, 300, .inl r_9.2.2.2.2.2.2.2.2.2.2.2.2.2.2.2.2.2.2.1)), (q4, .inl (cI, 300, .inl r_9.2.2.2.2.2.2.2.2.2.2.2.2.2.2.2.2.2.2.2.1)), (q5, .inl (cI, 300, .inl r_9.2.2.2.2.2.2.2.2.2.2.2.2.2.2.2.2.2.2.2.2))]) hP hD [0, 1, 2, 3, 4, 5, 6, 7, 8, 9, 10, 11] [12, 13] rfl rfl (by decide) (by decide) hk1 hFc hP1 hD1
          generalize H1 = H at hP hS ⊢
          have hP := hP.sub (ws' := [(h0, .inr (2, [.ref r0, .ref r1, .ref r2, .ref r3, .ref r4, .int r_9.1, .int ssz, .int ibz, .int liz, .int r_9.2.1, .int r_9.2.2.1])), (r0, .inr (1, [.int n0z, .int n1z, .long n2z, .int n3z, .int n4z])), (r1, .inl (cJ, 5, .inr (.inl nbz))), (r2, .inr (0, [.int r_9.2.2.2.1, .int r_9.2.2.2.2.1, .int r_9.2.2.2.2.2.1, .int r_9.2.2.2.2.2.2.1, .int r_9.2.2.2.2.2.2.2.1])), (r3, .inr (3, [.int r_9.2.2.2.2.2.2.2.2.1, .int r_9.2.2.2.2.2.2.2.2.2.1, .int r_9.2.2.2.2.2.2.2.2.2.2.1, .int r_9.2.2.2.2.2.2.2.2.2.2.2.1, .int r_9.2.2.2.2.2.2.2.2.2.2.2.2.1, .int r_9.2.2.2.2.2.2.2.2.2.2.2.2.2.1])), (r4, .inr (4, [.ref q0, .ref q1, .ref q2, .ref q3, .ref q4, .ref q5, .int r_9.2.2.2.2.2.2.2.2.2.2.2.2.2.2.1])), (q0, .inl (cI, 300, .inl r_9.2.2.2.2.2.2.2.2.2.2.2.2.2.2.2.1)), (q1, .inl (cI, 300, .inl r_9.2.2.2.2.2.2.2.2.2.2.2.2.2.2.2.2.1)), (q2, .inl (cI, 300, .inl r_9.2.2.2.2.2.2.2.2.2.2.2.2.2.2.2.2.2.1)), (q3, .inl (cI, 300, .inl r_9.2.2.2.2.2.2.2.2.2.2.2.2.2.2.2.2.2.2.1)), (q4, .inl (cI, 300, .inl r_9.2.2.2.2.2.2.2.2.2.2.2.2.2.2.2.2.2.2.2.1)), (q5, .inl (cI, 300, .inl r_9.2.2.2.2.2.2.2.2.2.2.2.2.2.2.2.2.2.2.2.2)), (h1, .inr (5, [.ref b0, .int ln])), (b0, .inl (cB, 3000, .inl bt))]) [2, 3, 4, 5, 6, 7, 8, 9, 10, 11, 12, 13, 0, 1] rfl
          have hD := hD.sub (ws' := [(h0, .inr (2, [.ref r0, .ref r1, .ref r2, .ref r3, .ref r4, .int r_9.1, .int ssz, .int ibz, .int liz, .int r_9.2.1, .int r_9.2.2.1])), (r0, .inr (1, [.int n0z, .int n1z, .long n2z, .int n3z, .int n4z])), (r1, .inl (cJ, 5, .inr (.inl nbz))), (r2, .inr (0, [.int r_9.2.2.2.1, .int r_9.2.2.2.2.1, .int r_9.2.2.2.2.2.1, .int r_9.2.2.2.2.2.2.1, .int r_9.2.2.2.2.2.2.2.1])), (r3, .inr (3, [.int r_9.2.2.2.2.2.2.2.2.1, .int r_9.2.2.2.2.2.2.2.2.2.1, .int r_9.2.2.2.2.2.2.2.2.2.2.1, .int r_9.2.2.2.2.2.2.2.2.2.2.2.1, .int r_9.2.2.2.2.2.2.2.2.2.2.2.2.1, .int r_9.2.2.2.2.2.2.2.2.2.2.2.2.2.1])), (r4, .inr (4, [.ref q0, .ref q1, .ref q2, .ref q3, .ref q4, .ref q5, .int r_9.2.2.2.2.2.2.2.2.2.2.2.2.2.2.1])), (q0, .inl (cI, 300, .inl r_9.2.2.2.2.2.2.2.2.2.2.2.2.2.2.2.1)), (q1, .inl (cI, 300, .inl r_9.2.2.2.2.2.2.2.2.2.2.2.2.2.2.2.2.1)), (q2, .inl (cI, 300, .inl r_9.2.2.2.2.2.2.2.2.2.2.2.2.2.2.2.2.2.1)), (q3, .inl (cI, 300, .inl r_9.2.2.2.2.2.2.2.2.2.2.2.2.2.2.2.2.2.2.1)), (q4, .inl (cI, 300, .inl r_9.2.2.2.2.2.2.2.2.2.2.2.2.2.2.2.2.2.2.2.1)), (q5, .inl (cI, 300, .inl r_9.2.2.2.2.2.2.2.2.2.2.2.2.2.2.2.2.2.2.2.2)), (h1, .inr (5, [.ref b0, .int ln])), (b0, .inl (cB, 3000, .inl bt))]) [2, 3, 4, 5, 6, 7, 8, 9, 10, 11, 12, 13, 0, 1] (by decide) rfl
          have e_10 : 0 ≤ (r_9.2.2.2.2.2.2.2.2.2.2.2.2.2.2.1 : Int32).toInt ∧ (r_9.2.2.2.2.2.2.2.2.2.2.2.2.2.2.1 : Int32).toInt ≤ 300 := by
            have q_11 := i_le c_1
            have k_12 : (0 : Int32).toInt = 0 := by decide
            have q_13 := i_eq c_2
            try generalize Int32.toInt r_9.2.2.2.2.2.2.2.2.2.2.2.2.2.2.1 = z0 at *
            try generalize Int32.toInt r_9.1 = z1 at *
            try generalize Int32.toInt cnz = z2 at *
            try generalize Int32.toInt ffz = z3 at *
            try generalize Int32.toInt ncz = z4 at *
            try generalize Int32.toInt ln = z5 at *
            try generalize Int32.toInt (0 : Int32) = z6 at *
            try generalize Int32.toInt k = z7 at *
            omega
          subst hR
          exact W.vret hx hb hr (fun t ht hW => ⟨⟨(), rfl, e_10, by rw [ht]; exact hP, hD⟩, hS.F ht⟩) hS.2.2 dX2_readTape_53
      · rw [if_neg c_1] at hR
        refine lv_aload_n hx hb dX2_readTape_14 rfl (lv_at hl 0 rfl) ?_
        refine va_get (D := (dC, dI)) (ci := 2) (v := .int ffz) (C := RX2) (T := TX2) (N := 11) hx hb hts inc_X2_readTape_2 hown hG.1 hP 0 rfl rfl 9 (by decide) (hts (.fieldLink RX2 52 "MappingDesk$Reader" "faultFound" "I") (by decide +kernel)) (fun _ h9 => h9) rfl dX2_readTape_15 ?_
        refine lv_if_ne (tgt := 37) hx hb dX2_readTape_18 (by decide) (fun c_14 => ?_) (fun c_14 => ?_)
        · rw [if_neg c_14] at hR
          refine lv_aload_n hx hb dX2_readTape_37 rfl (lv_at hl 0 rfl) ?_
          refine va_get (D := (dC, dI)) (ci := 2) (v := .int ffz) (C := RX2) (T := TX2) (N := 11) hx hb hts inc_X2_readTape_2 hown hG.1 hP 0 rfl rfl 9 (by decide) (hts (.fieldLink RX2 52 "MappingDesk$Reader" "faultFound" "I") (by decide +kernel)) (fun _ h9 => h9) rfl dX2_readTape_38 ?_
          refine lv_if_ne (tgt := 53) hx hb dX2_readTape_41 (by decide) (fun c_15 => ?_) (fun c_15 => ?_)
          · have e_16 : 0 ≤ (cnz : Int32).toInt ∧ (cnz : Int32).toInt ≤ 300 := by
              have q_17 := i_nle c_1
              have k_18 : (0 : Int32).toInt = 0 := by decide
              have q_19 := i_ne c_14
              have q_20 := i_ne c_15
              try generalize Int32.toInt cnz = z0 at *
              try generalize Int32.toInt ffz = z1 at *
              try generalize Int32.toInt ncz = z2 at *
              try generalize Int32.toInt ln = z3 at *
              try generalize Int32.toInt (0 : Int32) = z4 at *
              try generalize Int32.toInt k = z5 at *
              omega
            subst hR
            exact W.vret hx hb hr (fun t ht hW => ⟨⟨(), rfl, e_16, by rw [ht]; exact hP, hD⟩, hS.F ht⟩) hS.2.2 dX2_readTape_53
          · exact absurd c_15 c_14
        · rw [if_pos c_14] at hR
          refine lv_aload_n hx hb dX2_readTape_21 rfl (lv_at hl 0 rfl) ?_
          refine lv_aload_n hx hb dX2_readTape_22 rfl (lv_at hl 1 rfl) ?_
          refine lv_iload_n hx hb dX2_readTape_23 rfl (lv_at hl 2 rfl) ?_
          have p_21 : 0 ≤ k.toInt := by
            first | exact hk0 | assumption
          have p_22 : k.toInt < 3000 := by
            have q_23 := i_nle c_1
            have k_24 : (0 : Int32).toInt = 0 := by decide
            have q_25 := i_eq c_14
            try generalize Int32.toInt cnz = z0 at *
            try generalize Int32.toInt ffz = z1 at *
            try generalize Int32.toInt ncz = z2 at *
            try generalize Int32.toInt ln = z3 at *
            try generalize Int32.toInt (0 : Int32) = z4 at *
            try generalize Int32.toInt k = z5 at *
            first | omega | exact ⟨by omega, by omega⟩
          have hPc := hP.sub (ws' := [(h1, .inr (5, [.ref b0, .int ln])), (b0, .inl (cB, 3000, .inl bt))]) [12, 13] rfl
          have hDc := hD.sub (ws' := [(h1, .inr (5, [.ref b0, .int ln])), (b0, .inl (cB, 3000, .inl bt))]) [12, 13] (by decide) rfl
          refine vp_callSi (va_Run.run (va_runVN (C := RX5) (As := [.int k]) (rest := [.ref h0]) ⟨hx, hb, hml, hown, hts⟩ (c_X5_characterAt l dC dI cB cC cI cJ H.size h1 b0 bt ln k p_21 p_22) ⟨va_cnB 1 hts gX2_readTape_X5_characterAt_n55 rfl rfl rfl (hG.nm (A := #[]) (w := .methodLinkNest RX2 55 yX5_characterAt "MappingDesk") (by decide +kernel)) (hts (.initialized RX5) (by decide +kernel)) (by decide +kernel) ⟨(Nat.le_of_ble_eq_true rfl), (Nat.le_of_ble_eq_true rfl)⟩, hts (.instanceMethod yX5_characterAt) (by decide +kernel), hts (.selects RX5 yX5_characterAt yX5_characterAt) (by decide +kernel)⟩ ⟨cP_blind, va_recv hG.1 hPc (ci := 5) (q0 := 0) rfl rfl, cP_pre hPc hG hDc⟩ rfl rfl hl.1 rfl (lv_room (Nat.le_of_ble_eq_true rfl)) dX2_readTape_24 ⟨Nat.le_of_ble_eq_true rfl, Nat.le_of_ble_eq_true rfl⟩)) (fun r_26 hr_26 => ?_)
          rw [bnd_eq hr_26.symm] at hR
          refine lv_iload_n hx hb dX2_readTape_27 rfl (lv_at hl 2 rfl) ?_
          have p_27 : 0 ≤ cnz.toInt := by
            first | exact hq0 | assumption
          have p_28 : cnz.toInt ≤ 300 := by
            first | exact hq1 | assumption
          have p_29 : 0 ≤ ncz.toInt := by
            first | exact hc0 | assumption
          have p_30 : ncz.toInt ≤ 2999 := by
            have q_31 := i_nle c_1
            have k_32 : (0 : Int32).toInt = 0 := by decide
            have q_33 := i_eq c_14
            try generalize Int32.toInt cnz = z0 at *
            try generalize Int32.toInt ffz = z1 at *
            try generalize Int32.toInt ncz = z2 at *
            try generalize Int32.toInt ln = z3 at *
            try generalize Int32.toInt (0 : Int32) = z4 at *
            try generalize Int32.toInt k = z5 at *
            first | omega | exact ⟨by omega, by omega⟩
          have hPc := hP.sub (ws' := [(h0, .inr (2, [.ref r0, .ref r1, .ref r2, .ref r3, .ref r4, .int ncz, .int ssz, .int ibz, .int liz, .int ffz, .int fpz])), (r0, .inr (1, [.int n0z, .int n1z, .long n2z, .int n3z, .int n4z])), (r1, .inl (cJ, 5, .inr (.inl nbz))), (r2, .inr (0, [.int a0z, .int a1z, .int a2z, .int a3z, .int a4z])), (r3, .inr (3, [.int g0z, .int g1z, .int g2z, .int g3z, .int g4z, .int g5z])), (r4, .inr (4, [.ref q0, .ref q1, .ref q2, .ref q3, .ref q4, .ref q5, .int cnz])), (q0, .inl (cI, 300, .inl t0z)), (q1, .inl (cI, 300, .inl t1z)), (q2, .inl (cI, 300, .inl t2z)), (q3, .inl (cI, 300, .inl t3z)), (q4, .inl (cI, 300, .inl t4z)), (q5, .inl (cI, 300, .inl t5z))]) [0, 1, 2, 3, 4, 5, 6, 7, 8, 9, 10, 11] rfl
          have hDc := hD.sub (ws' := [(h0, .inr (2, [.ref r0, .ref r1, .ref r2, .ref r3, .ref r4, .int ncz, .int ssz, .int ibz, .int liz, .int ffz, .int fpz])), (r0, .inr (1, [.int n0z, .int n1z, .long n2z, .int n3z, .int n4z])), (r1, .inl (cJ, 5, .inr (.inl nbz))), (r2, .inr (0, [.int a0z, .int a1z, .int a2z, .int a3z, .int a4z])), (r3, .inr (3, [.int g0z, .int g1z, .int g2z, .int g3z, .int g4z, .int g5z])), (r4, .inr (4, [.ref q0, .ref q1, .ref q2, .ref q3, .ref q4, .ref q5, .int cnz])), (q0, .inl (cI, 300, .inl t0z)), (q1, .inl (cI, 300, .inl t1z)), (q2, .inl (cI, 300, .inl t2z)), (q3, .inl (cI, 300, .inl t3z)), (q4, .inl (cI, 300, .inl t4z)), (q5, .inl (cI, 300, .inl t5z))]) [0, 1, 2, 3, 4, 5, 6, 7, 8, 9, 10, 11] (by decide) rfl
          have hFc := va_free (wc := [(h0, .inr (2, [.ref r0, .ref r1, .ref r2, .ref r3, .ref r4, .int ncz, .int ssz, .int ibz, .int liz, .int ffz, .int fpz])), (r0, .inr (1, [.int n0z, .int n1z, .long n2z, .int n3z, .int n4z])), (r1, .inl (cJ, 5, .inr (.inl nbz))), (r2, .inr (0, [.int a0z, .int a1z, .int a2z, .int a3z, .int a4z])), (r3, .inr (3, [.int g0z, .int g1z, .int g2z, .int g3z, .int g4z, .int g5z])), (r4, .inr (4, [.ref q0, .ref q1, .ref q2, .ref q3, .ref q4, .ref q5, .int cnz])), (q0, .inl (cI, 300, .inl t0z)), (q1, .inl (cI, 300, .inl t1z)), (q2, .inl (cI, 300, .inl t2z)), (q3, .inl (cI, 300, .inl t3z)), (q4, .inl (cI, 300, .inl t4z)), (q5, .inl (cI, 300, .inl t5z))]) hD hS hA [0, 1, 2, 3, 4, 5, 6, 7, 8, 9, 10, 11] rfl
          refine va_callv (va_runV (As := [.int r_26, .int k]) (rest := []) ⟨hx, hb, hml, hown, hts⟩ (c_X2_takeCharacter l dC dI cB cC cI cJ ak av H.size h0 r0 r1 r2 r3 r4 q0 q1 q2 q3 q4 q5 ncz ssz ibz liz ffz fpz n0z n1z n2z n3z n4z nbz a0z a1z a2z a3z a4z g0z g1z g2z g3z g4z g5z cnz t0z t1z t2z t3z t4z t5z r_26 k p_27 p_28 p_29 p_30) (cwV 2 hts gX2_readTape_X2_takeCharacter rfl rfl rfl (by decide +kernel) ⟨(Nat.le_of_ble_eq_true rfl), (Nat.le_of_ble_eq_true rfl)⟩) ⟨cPs_blind, va_recv hG.1 hPc (ci := 2) (q0 := 0) rfl rfl, cPs_pre hPc hG hDc hSK hS hFc hSR⟩ rfl rfl hl.1 rfl (lv_room (Nat.le_of_ble_eq_true rfl)) dX2_readTape_28 ⟨Nat.le_of_ble_eq_true rfl, Nat.le_of_ble_eq_true rfl⟩) hS (fun q _ h => hFc q h) hFc (fun u t H1 locs ht hvm hw hB hz1 hk1 hS => ?_)
          obtain ⟨hP1, hD1⟩ := hB
          rw [ht] at hP1
          generalize hr_34 : fX2_takeCharacter ncz ssz ibz liz ffz fpz n0z n1z n2z n3z n4z nbz a0z a1z a2z a3z a4z g0z g1z g2z g3z g4z g5z cnz t0z t1z t2z t3z t4z t5z r_26 k = r_34 at hP1 hD1 hw
          obtain ⟨er_34_0, er_34_1⟩ := hw
          rw [bnd_eq hr_34] at hR
          obtain ⟨hP, hD⟩ := va_join (wr := [(h1, .inr (5, [.ref b0, .int ln])), (b0, .inl (cB, 3000, .inl bt))]) (w1 := [(h0, .inr (2, [.ref r0, .ref r1, .ref r2, .ref r3, .ref r4, .int r_34.1, .int r_34.2.1, .int r_34.2.2.1, .int r_34.2.2.2.1, .int r_34.2.2.2.2.1, .int r_34.2.2.2.2.2.1])), (r0, .inr (1, [.int r_34.2.2.2.2.2.2.1, .int r_34.2.2.2.2.2.2.2.1, .long r_34.2.2.2.2.2.2.2.2.1, .int r_34.2.2.2.2.2.2.2.2.2.1, .int r_34.2.2.2.2.2.2.2.2.2.2.1])), (r1, .inl (cJ, 5, .inr (.inl r_34.2.2.2.2.2.2.2.2.2.2.2.1))), (r2, .inr (0, [.int r_34.2.2.2.2.2.2.2.2.2.2.2.2.1, .int r_34.2.2.2.2.2.2.2.2.2.2.2.2.2.1, .int r_34.2.2.2.2.2.2.2.2.2.2.2.2.2.2.1, .int r_34.2.2.2.2.2.2.2.2.2.2.2.2.2.2.2.1, .int r_34.2.2.2.2.2.2.2.2.2.2.2.2.2.2.2.2.1])), (r3, .inr (3, [.int r_34.2.2.2.2.2.2.2.2.2.2.2.2.2.2.2.2.2.1, .int r_34.2.2.2.2.2.2.2.2.2.2.2.2.2.2.2.2.2.2.1, .int r_34.2.2.2.2.2.2.2.2.2.2.2.2.2.2.2.2.2.2.2.1, .int r_34.2.2.2.2.2.2.2.2.2.2.2.2.2.2.2.2.2.2.2.2.1, .int r_34.2.2.2.2.2.2.2.2.2.2.2.2.2.2.2.2.2.2.2.2.2.1, .int r_34.2.2.2.2.2.2.2.2.2.2.2.2.2.2.2.2.2.2.2.2.2.2.1])), (r4, .inr (4, [.ref q0, .ref q1, .ref q2, .ref q3, .ref q4, .ref q5, .int r_34.2.2.2.2.2.2.2.2.2.2.2.2.2.2.2.2.2.2.2.2.2.2.2.1])), (q0, .inl (cI, 300, .inl r_34.2.2.2.2.2.2.2.2.2.2.2.2.2.2.2.2.2.2.2.2.2.2.2.2.1)), (q1, .inl (cI, 300, .inl r_34.2.2.2.2.2.2.2.2.2.2.2.2.2.2.2.2.2.2.2.2.2.2.2.2.2.1)), (q2, .inl (cI, 300, .inl r_34.2.2.2.2.2.2.2.2.2.2.2.2.2.2.2.2.2.2.2.2.2.2.2.2.2.2.1)), (q3, .inl (cI, 300, .inl r_34.2.2.2.2.2.2.2.2.2.2.2.2.2.2.2.2.2.2.2.2.2.2.2.2.2.2.2.1)), (q4, .inl (cI, 300, .inl r_34.2.2.2.2.2.2.2.2.2.2.2.2.2.2.2.2.2.2.2.2.2.2.2.2.2.2.2.2.1)), (q5, .inl (cI, 300, .inl r_34.2.2.2.2.2.2.2.2.2.2.2.2.2.2.2.2.2.2.2.2.2.2.2.2.2.2.2.2.2))]) hP hD [0, 1, 2, 3, 4, 5, 6, 7, 8, 9, 10, 11] [12, 13] rfl rfl (by decide) (by decide) hk1 hFc hP1 hD1
          generalize H1 = H at hP hS ⊢
          have hP := hP.sub (ws' := [(h0, .inr (2, [.ref r0, .ref r1, .ref r2, .ref r3, .ref r4, .int r_34.1, .int r_34.2.1, .int r_34.2.2.1, .int r_34.2.2.2.1, .int r_34.2.2.2.2.1, .int r_34.2.2.2.2.2.1])), (r0, .inr (1, [.int r_34.2.2.2.2.2.2.1, .int r_34.2.2.2.2.2.2.2.1, .long r_34.2.2.2.2.2.2.2.2.1, .int r_34.2.2.2.2.2.2.2.2.2.1, .int r_34.2.2.2.2.2.2.2.2.2.2.1])), (r1, .inl (cJ, 5, .inr (.inl r_34.2.2.2.2.2.2.2.2.2.2.2.1))), (r2, .inr (0, [.int r_34.2.2.2.2.2.2.2.2.2.2.2.2.1, .int r_34.2.2.2.2.2.2.2.2.2.2.2.2.2.1, .int r_34.2.2.2.2.2.2.2.2.2.2.2.2.2.2.1, .int r_34.2.2.2.2.2.2.2.2.2.2.2.2.2.2.2.1, .int r_34.2.2.2.2.2.2.2.2.2.2.2.2.2.2.2.2.1])), (r3, .inr (3, [.int r_34.2.2.2.2.2.2.2.2.2.2.2.2.2.2.2.2.2.1, .int r_34.2.2.2.2.2.2.2.2.2.2.2.2.2.2.2.2.2.2.1, .int r_34.2.2.2.2.2.2.2.2.2.2.2.2.2.2.2.2.2.2.2.1, .int r_34.2.2.2.2.2.2.2.2.2.2.2.2.2.2.2.2.2.2.2.2.1, .int r_34.2.2.2.2.2.2.2.2.2.2.2.2.2.2.2.2.2.2.2.2.2.1, .int r_34.2.2.2.2.2.2.2.2.2.2.2.2.2.2.2.2.2.2.2.2.2.2.1])), (r4, .inr (4, [.ref q0, .ref q1, .ref q2, .ref q3, .ref q4, .ref q5, .int r_34.2.2.2.2.2.2.2.2.2.2.2.2.2.2.2.2.2.2.2.2.2.2.2.1])), (q0, .inl (cI, 300, .inl r_34.2.2.2.2.2.2.2.2.2.2.2.2.2.2.2.2.2.2.2.2.2.2.2.2.1)), (q1, .inl (cI, 300, .inl r_34.2.2.2.2.2.2.2.2.2.2.2.2.2.2.2.2.2.2.2.2.2.2.2.2.2.1)), (q2, .inl (cI, 300, .inl r_34.2.2.2.2.2.2.2.2.2.2.2.2.2.2.2.2.2.2.2.2.2.2.2.2.2.2.1)), (q3, .inl (cI, 300, .inl r_34.2.2.2.2.2.2.2.2.2.2.2.2.2.2.2.2.2.2.2.2.2.2.2.2.2.2.2.1)), (q4, .inl (cI, 300, .inl r_34.2.2.2.2.2.2.2.2.2.2.2.2.2.2.2.2.2.2.2.2.2.2.2.2.2.2.2.2.1)), (q5, .inl (cI, 300, .inl r_34.2.2.2.2.2.2.2.2.2.2.2.2.2.2.2.2.2.2.2.2.2.2.2.2.2.2.2.2.2)), (h1, .inr (5, [.ref b0, .int ln])), (b0, .inl (cB, 3000, .inl bt))]) [2, 3, 4, 5, 6, 7, 8, 9, 10, 11, 12, 13, 0, 1] rfl
          have hD := hD.sub (ws' := [(h0, .inr (2, [.ref r0, .ref r1, .ref r2, .ref r3, .ref r4, .int r_34.1, .int r_34.2.1, .int r_34.2.2.1, .int r_34.2.2.2.1, .int r_34.2.2.2.2.1, .int r_34.2.2.2.2.2.1])), (r0, .inr (1, [.int r_34.2.2.2.2.2.2.1, .int r_34.2.2.2.2.2.2.2.1, .long r_34.2.2.2.2.2.2.2.2.1, .int r_34.2.2.2.2.2.2.2.2.2.1, .int r_34.2.2.2.2.2.2.2.2.2.2.1])), (r1, .inl (cJ, 5, .inr (.inl r_34.2.2.2.2.2.2.2.2.2.2.2.1))), (r2, .inr (0, [.int r_34.2.2.2.2.2.2.2.2.2.2.2.2.1, .int r_34.2.2.2.2.2.2.2.2.2.2.2.2.2.1, .int r_34.2.2.2.2.2.2.2.2.2.2.2.2.2.2.1, .int r_34.2.2.2.2.2.2.2.2.2.2.2.2.2.2.2.1, .int r_34.2.2.2.2.2.2.2.2.2.2.2.2.2.2.2.2.1])), (r3, .inr (3, [.int r_34.2.2.2.2.2.2.2.2.2.2.2.2.2.2.2.2.2.1, .int r_34.2.2.2.2.2.2.2.2.2.2.2.2.2.2.2.2.2.2.1, .int r_34.2.2.2.2.2.2.2.2.2.2.2.2.2.2.2.2.2.2.2.1, .int r_34.2.2.2.2.2.2.2.2.2.2.2.2.2.2.2.2.2.2.2.2.1, .int r_34.2.2.2.2.2.2.2.2.2.2.2.2.2.2.2.2.2.2.2.2.2.1, .int r_34.2.2.2.2.2.2.2.2.2.2.2.2.2.2.2.2.2.2.2.2.2.2.1])), (r4, .inr (4, [.ref q0, .ref q1, .ref q2, .ref q3, .ref q4, .ref q5, .int r_34.2.2.2.2.2.2.2.2.2.2.2.2.2.2.2.2.2.2.2.2.2.2.2.1])), (q0, .inl (cI, 300, .inl r_34.2.2.2.2.2.2.2.2.2.2.2.2.2.2.2.2.2.2.2.2.2.2.2.2.1)), (q1, .inl (cI, 300, .inl r_34.2.2.2.2.2.2.2.2.2.2.2.2.2.2.2.2.2.2.2.2.2.2.2.2.2.1)), (q2, .inl (cI, 300, .inl r_34.2.2.2.2.2.2.2.2.2.2.2.2.2.2.2.2.2.2.2.2.2.2.2.2.2.2.1)), (q3, .inl (cI, 300, .inl r_34.2.2.2.2.2.2.2.2.2.2.2.2.2.2.2.2.2.2.2.2.2.2.2.2.2.2.2.1)), (q4, .inl (cI, 300, .inl r_34.2.2.2.2.2.2.2.2.2.2.2.2.2.2.2.2.2.2.2.2.2.2.2.2.2.2.2.2.1)), (q5, .inl (cI, 300, .inl r_34.2.2.2.2.2.2.2.2.2.2.2.2.2.2.2.2.2.2.2.2.2.2.2.2.2.2.2.2.2)), (h1, .inr (5, [.ref b0, .int ln])), (b0, .inl (cB, 3000, .inl bt))]) [2, 3, 4, 5, 6, 7, 8, 9, 10, 11, 12, 13, 0, 1] (by decide) rfl
          refine lv_iinc (v := (k + 1)) (lv' := [(2, .int (k + 1)), (0, .ref h0), (1, .ref h1)]) hx hb dX2_readTape_31 hl (k := 2) rfl rfl (by decide) rfl (fun ls hl => ?_)
          refine lv_goto (tgt := 6) hx hb dX2_readTape_34 (by decide) ?_
          have v_38 : 0 ≤ ((k + 1)).toInt := by
            have q_39 := i_nle c_1
            have k_40 : (0 : Int32).toInt = 0 := by decide
            have q_41 := i_eq c_14
            have k_42 : (1 : Int32).toInt = 1 := by decide
            have t_43 := ti_add (a := k) (b := 1) (by omega) (by omega)
            try generalize Int32.toInt r_34.2.2.2.2.2.2.2.2.2.2.2.2.2.2.2.2.2.2.2.2.2.2.2.1 = z0 at *
            try generalize Int32.toInt (k + 1) = z1 at *
            try generalize Int32.toInt r_34.1 = z2 at *
            try generalize Int32.toInt cnz = z3 at *
            try generalize Int32.toInt ffz = z4 at *
            try generalize Int32.toInt ncz = z5 at *
            try generalize Int32.toInt ln = z6 at *
            try generalize Int32.toInt (0 : Int32) = z7 at *
            try generalize Int32.toInt (1 : Int32) = z8 at *
            try generalize Int32.toInt k = z9 at *
            omega
          have v_44 : ((k + 1)).toInt ≤ ln.toInt := by
            have q_45 := i_nle c_1
            have k_46 : (0 : Int32).toInt = 0 := by decide
            have q_47 := i_eq c_14
            have k_48 : (1 : Int32).toInt = 1 := by decide
            have t_49 := ti_add (a := k) (b := 1) (by omega) (by omega)
            try generalize Int32.toInt r_34.2.2.2.2.2.2.2.2.2.2.2.2.2.2.2.2.2.2.2.2.2.2.2.1 = z0 at *
            try generalize Int32.toInt (k + 1) = z1 at *
            try generalize Int32.toInt r_34.1 = z2 at *
            try generalize Int32.toInt cnz = z3 at *
            try generalize Int32.toInt ffz = z4 at *
            try generalize Int32.toInt ncz = z5 at *
            try generalize Int32.toInt ln = z6 at *
            try generalize Int32.toInt (0 : Int32) = z7 at *
            try generalize Int32.toInt (1 : Int32) = z8 at *
            try generalize Int32.toInt k = z9 at *
            omega
          have v_50 : 0 ≤ r_34.2.2.2.2.2.2.2.2.2.2.2.2.2.2.2.2.2.2.2.2.2.2.2.1.toInt := by
            have q_51 := i_nle c_1
            have k_52 : (0 : Int32).toInt = 0 := by decide
            have q_53 := i_eq c_14
            try generalize Int32.toInt r_34.2.2.2.2.2.2.2.2.2.2.2.2.2.2.2.2.2.2.2.2.2.2.2.1 = z0 at *
            try generalize Int32.toInt r_34.1 = z1 at *
            try generalize Int32.toInt cnz = z2 at *
            try generalize Int32.toInt ffz = z3 at *
            try generalize Int32.toInt ncz = z4 at *
            try generalize Int32.toInt ln = z5 at *
            try generalize Int32.toInt (0 : Int32) = z6 at *
            try generalize Int32.toInt k = z7 at *
            omega
          have v_54 : r_34.2.2.2.2.2.2.2.2.2.2.2.2.2.2.2.2.2.2.2.2.2.2.2.1.toInt ≤ 300 := by
            have q_55 := i_nle c_1
            have k_56 : (0 : Int32).toInt = 0 := by decide
            have q_57 := i_eq c_14
            try generalize Int32.toInt r_34.2.2.2.2.2.2.2.2.2.2.2.2.2.2.2.2.2.2.2.2.2.2.2.1 = z0 at *
            try generalize Int32.toInt r_34.1 = z1 at *
            try generalize Int32.toInt cnz = z2 at *
            try generalize Int32.toInt ffz = z3 at *
            try generalize Int32.toInt ncz = z4 at *
            try generalize Int32.toInt ln = z5 at *
            try generalize Int32.toInt (0 : Int32) = z6 at *
            try generalize Int32.toInt k = z7 at *
            omega
          have v_58 : 0 ≤ r_34.1.toInt := by
            have q_59 := i_nle c_1
            have k_60 : (0 : Int32).toInt = 0 := by decide
            have q_61 := i_eq c_14
            try generalize Int32.toInt r_34.2.2.2.2.2.2.2.2.2.2.2.2.2.2.2.2.2.2.2.2.2.2.2.1 = z0 at *
            try generalize Int32.toInt r_34.1 = z1 at *
            try generalize Int32.toInt cnz = z2 at *
            try generalize Int32.toInt ffz = z3 at *
            try generalize Int32.toInt ncz = z4 at *
            try generalize Int32.toInt ln = z5 at *
            try generalize Int32.toInt (0 : Int32) = z6 at *
            try generalize Int32.toInt k = z7 at *
            omega
          have v_62 : r_34.1.toInt ≤ ((k + 1)).toInt := by
            have q_63 := i_nle c_1
            have k_64 : (0 : Int32).toInt = 0 := by decide
            have q_65 := i_eq c_14
            have k_66 : (1 : Int32).toInt = 1 := by decide
            have t_67 := ti_add (a := k) (b := 1) (by omega) (by omega)
            try generalize Int32.toInt r_34.2.2.2.2.2.2.2.2.2.2.2.2.2.2.2.2.2.2.2.2.2.2.2.1 = z0 at *
            try generalize Int32.toInt (k + 1) = z1 at *
            try generalize Int32.toInt r_34.1 = z2 at *
            try generalize Int32.toInt cnz = z3 at *
            try generalize Int32.toInt ffz = z4 at *
            try generalize Int32.toInt ncz = z5 at *
            try generalize Int32.toInt ln = z6 at *
            try generalize Int32.toInt (0 : Int32) = z7 at *
            try generalize Int32.toInt (1 : Int32) = z8 at *
            try generalize Int32.toInt k = z9 at *
            omega
          have v_68 : ln.toInt - ((k + 1)).toInt < ((n : Nat) : Int) := by
            have q_69 := i_nle c_1
            have k_70 : (0 : Int32).toInt = 0 := by decide
            have q_71 := i_eq c_14
            have k_72 : (1 : Int32).toInt = 1 := by decide
            have t_73 := ti_add (a := k) (b := 1) (by omega) (by omega)
            try generalize Int32.toInt r_34.2.2.2.2.2.2.2.2.2.2.2.2.2.2.2.2.2.2.2.2.2.2.2.1 = z0 at *
            try generalize Int32.toInt (k + 1) = z1 at *
            try generalize Int32.toInt r_34.1 = z2 at *
            try generalize Int32.toInt cnz = z3 at *
            try generalize Int32.toInt ffz = z4 at *
            try generalize Int32.toInt ncz = z5 at *
            try generalize Int32.toInt ln = z6 at *
            try generalize Int32.toInt (0 : Int32) = z7 at *
            try generalize Int32.toInt (1 : Int32) = z8 at *
            try generalize Int32.toInt k = z9 at *
            omega
          exact ih ((k + 1)) (r_34.1) (r_34.2.1) (r_34.2.2.1) (r_34.2.2.2.1) (r_34.2.2.2.2.1) (r_34.2.2.2.2.2.1) (r_34.2.2.2.2.2.2.1) (r_34.2.2.2.2.2.2.2.1) (r_34.2.2.2.2.2.2.2.2.1) (r_34.2.2.2.2.2.2.2.2.2.1) (r_34.2.2.2.2.2.2.2.2.2.2.1) (r_34.2.2.2.2.2.2.2.2.2.2.2.1) (r_34.2.2.2.2.2.2.2.2.2.2.2.2.1) (r_34.2.2.2.2.2.2.2.2.2.2.2.2.2.1) (r_34.2.2.2.2.2.2.2.2.2.2.2.2.2.2.1) (r_34.2.2.2.2.2.2.2.2.2.2.2.2.2.2.2.1) (r_34.2.2.2.2.2.2.2.2.2.2.2.2.2.2.2.2.1) (r_34.2.2.2.2.2.2.2.2.2.2.2.2.2.2.2.2.2.1) (r_34.2.2.2.2.2.2.2.2.2.2.2.2.2.2.2.2.2.2.1) (r_34.2.2.2.2.2.2.2.2.2.2.2.2.2.2.2.2.2.2.2.1) (r_34.2.2.2.2.2.2.2.2.2.2.2.2.2.2.2.2.2.2.2.2.1) (r_34.2.2.2.2.2.2.2.2.2.2.2.2.2.2.2.2.2.2.2.2.2.1) (r_34.2.2.2.2.2.2.2.2.2.2.2.2.2.2.2.2.2.2.2.2.2.2.1) (r_34.2.2.2.2.2.2.2.2.2.2.2.2.2.2.2.2.2.2.2.2.2.2.2.1) (r_34.2.2.2.2.2.2.2.2.2.2.2.2.2.2.2.2.2.2.2.2.2.2.2.2.1) (r_34.2.2.2.2.2.2.2.2.2.2.2.2.2.2.2.2.2.2.2.2.2.2.2.2.2.1) (r_34.2.2.2.2.2.2.2.2.2.2.2.2.2.2.2.2.2.2.2.2.2.2.2.2.2.2.1) (r_34.2.2.2.2.2.2.2.2.2.2.2.2.2.2.2.2.2.2.2.2.2.2.2.2.2.2.2.1) (r_34.2.2.2.2.2.2.2.2.2.2.2.2.2.2.2.2.2.2.2.2.2.2.2.2.2.2.2.2.1) (r_34.2.2.2.2.2.2.2.2.2.2.2.2.2.2.2.2.2.2.2.2.2.2.2.2.2.2.2.2.2) _ _ ls hR v_38 v_44 v_50 v_54 v_58 v_62 v_68 hP hD hS (lv_sub hl [1, 2, 0] rfl)
  refine lv_aload_n hx hb dX2_readTape_0 rfl (lv_at hl 0 rfl) ?_
  have hPc := hP.sub (ws' := [(h0, .inr (2, [.ref r0, .ref r1, .ref r2, .ref r3, .ref r4, .int nc, .int ss, .int ib, .int li, .int ff, .int fp])), (r0, .inr (1, [.int n0, .int n1, .long n2, .int n3, .int n4])), (r2, .inr (0, [.int a0, .int a1, .int a2, .int a3, .int a4])), (r4, .inr (4, [.ref q0, .ref q1, .ref q2, .ref q3, .ref q4, .ref q5, .int cn]))]) [0, 1, 3, 5] rfl
  have hDc := hD.sub (ws' := [(h0, .inr (2, [.ref r0, .ref r1, .ref r2, .ref r3, .ref r4, .int nc, .int ss, .int ib, .int li, .int ff, .int fp])), (r0, .inr (1, [.int n0, .int n1, .long n2, .int n3, .int n4])), (r2, .inr (0, [.int a0, .int a1, .int a2, .int a3, .int a4])), (r4, .inr (4, [.ref q0, .ref q1, .ref q2, .ref q3, .ref q4, .ref q5, .int cn]))]) [0, 1, 3, 5] (by decide) rfl
  have hFc := va_free (wc := [(h0, .inr (2, [.ref r0, .ref r1, .ref r2, .ref r3, .ref r4, .int nc, .int ss, .int ib, .int li, .int ff, .int fp])), (r0, .inr (1, [.int n0, .int n1, .long n2, .int n3, .int n4])), (r2, .inr (0, [.int a0, .int a1, .int a2, .int a3, .int a4])), (r4, .inr (4, [.ref q0, .ref q1, .ref q2, .ref q3, .ref q4, .ref q5, .int cn]))]) hD hS hA [0, 1, 3, 5] rfl
  refine va_callv (va_runV (As := []) (rest := []) ⟨hx, hb, hml, hown, hts⟩ (c_X2_start l dC dI cB cC cI cJ H.size h0 r0 r1 r2 r3 r4 q0 q1 q2 q3 q4 q5 nc ss ib li ff fp n0 n1 n2 n3 n4 a0 a1 a2 a3 a4 cn ) (cwV 0 hts gX2_readTape_X2_start rfl rfl rfl (by decide +kernel) ⟨(Nat.le_of_ble_eq_true rfl), (Nat.le_of_ble_eq_true rfl)⟩) ⟨cP_blind, va_recv hG.1 hPc (ci := 2) (q0 := 0) rfl rfl, cP_pre hPc hG hDc⟩ rfl rfl hl.1 rfl (lv_room (Nat.le_of_ble_eq_true rfl)) dX2_readTape_1 ⟨Nat.le_of_ble_eq_true rfl, Nat.le_of_ble_eq_true rfl⟩) hS (fun q _ h => hFc q h) hFc (fun u t H1 locs ht hvm hw hB hz1 hk1 hS => ?_)
  obtain ⟨hP1, hD1⟩ := hB
  rw [ht] at hP1
  generalize hr_74 : fX2_start nc ss ib li ff fp n0 n1 n2 n3 n4 a0 a1 a2 a3 a4 cn = r_74 at hP1 hD1 hw
  obtain ⟨er_74_0, er_74_1⟩ := hw
  rw [bnd_eq hr_74] at hR
  obtain ⟨hP, hD⟩ := va_join (wr := [(r1, .inl (cJ, 5, .inr (.inl nb))), (r3, .inr (3, [.int g0, .int g1, .int g2, .int g3, .int g4, .int g5])), (q0, .inl (cI, 300, .inl t0)), (q1, .inl (cI, 300, .inl t1)), (q2, .inl (cI, 300, .inl t2)), (q3, .inl (cI, 300, .inl t3)), (q4, .inl (cI, 300, .inl t4)), (q5, .inl (cI, 300, .inl t5)), (h1, .inr (5, [.ref b0, .int ln])), (b0, .inl (cB, 3000, .inl bt))]) (w1 := [(h0, .inr (2, [.ref r0, .ref r1, .ref r2, .ref r3, .ref r4, .int r_74.1, .int r_74.2.1, .int r_74.2.2.1, .int r_74.2.2.2.1, .int r_74.2.2.2.2.1, .int r_74.2.2.2.2.2.1])), (r0, .inr (1, [.int r_74.2.2.2.2.2.2.1, .int n1, .long n2, .int n3, .int n4])), (r2, .inr (0, [.int r_74.2.2.2.2.2.2.2.1, .int r_74.2.2.2.2.2.2.2.2.1, .int r_74.2.2.2.2.2.2.2.2.2.1, .int r_74.2.2.2.2.2.2.2.2.2.2.1, .int r_74.2.2.2.2.2.2.2.2.2.2.2.1])), (r4, .inr (4, [.ref q0, .ref q1, .ref q2, .ref q3, .ref q4, .ref q5, .int r_74.2.2.2.2.2.2.2.2.2.2.2.2]))]) hP hD [0, 1, 3, 5] [2, 4, 6, 7, 8, 9, 10, 11, 12, 13] rfl rfl (by decide) (by decide) hk1 hFc hP1 hD1
  generalize H1 = H at hP hS ⊢
  have hP := hP.sub (ws' := [(h0, .inr (2, [.ref r0, .ref r1, .ref r2, .ref r3, .ref r4, .int r_74.1, .int r_74.2.1, .int r_74.2.2.1, .int r_74.2.2.2.1, .int r_74.2.2.2.2.1, .int r_74.2.2.2.2.2.1])), (r0, .inr (1, [.int r_74.2.2.2.2.2.2.1, .int n1, .long n2, .int n3, .int n4])), (r1, .inl (cJ, 5, .inr (.inl nb))), (r2, .inr (0, [.int r_74.2.2.2.2.2.2.2.1, .int r_74.2.2.2.2.2.2.2.2.1, .int r_74.2.2.2.2.2.2.2.2.2.1, .int r_74.2.2.2.2.2.2.2.2.2.2.1, .int r_74.2.2.2.2.2.2.2.2.2.2.2.1])), (r3, .inr (3, [.int g0, .int g1, .int g2, .int g3, .int g4, .int g5])), (r4, .inr (4, [.ref q0, .ref q1, .ref q2, .ref q3, .ref q4, .ref q5, .int r_74.2.2.2.2.2.2.2.2.2.2.2.2])), (q0, .inl (cI, 300, .inl t0)), (q1, .inl (cI, 300, .inl t1)), (q2, .inl (cI, 300, .inl t2)), (q3, .inl (cI, 300, .inl t3)), (q4, .inl (cI, 300, .inl t4)), (q5, .inl (cI, 300, .inl t5)), (h1, .inr (5, [.ref b0, .int ln])), (b0, .inl (cB, 3000, .inl bt))]) [10, 11, 0, 12, 1, 13, 2, 3, 4, 5, 6, 7, 8, 9] rfl
  have hD := hD.sub (ws' := [(h0, .inr (2, [.ref r0, .ref r1, .ref r2, .ref r3, .ref r4, .int r_74.1, .int r_74.2.1, .int r_74.2.2.1, .int r_74.2.2.2.1, .int r_74.2.2.2.2.1, .int r_74.2.2.2.2.2.1])), (r0, .inr (1, [.int r_74.2.2.2.2.2.2.1, .int n1, .long n2, .int n3, .int n4])), (r1, .inl (cJ, 5, .inr (.inl nb))), (r2, .inr (0, [.int r_74.2.2.2.2.2.2.2.1, .int r_74.2.2.2.2.2.2.2.2.1, .int r_74.2.2.2.2.2.2.2.2.2.1, .int r_74.2.2.2.2.2.2.2.2.2.2.1, .int r_74.2.2.2.2.2.2.2.2.2.2.2.1])), (r3, .inr (3, [.int g0, .int g1, .int g2, .int g3, .int g4, .int g5])), (r4, .inr (4, [.ref q0, .ref q1, .ref q2, .ref q3, .ref q4, .ref q5, .int r_74.2.2.2.2.2.2.2.2.2.2.2.2])), (q0, .inl (cI, 300, .inl t0)), (q1, .inl (cI, 300, .inl t1)), (q2, .inl (cI, 300, .inl t2)), (q3, .inl (cI, 300, .inl t3)), (q4, .inl (cI, 300, .inl t4)), (q5, .inl (cI, 300, .inl t5)), (h1, .inr (5, [.ref b0, .int ln])), (b0, .inl (cB, 3000, .inl bt))]) [10, 11, 0, 12, 1, 13, 2, 3, 4, 5, 6, 7, 8, 9] (by decide) rfl
  refine lv_iconst (v := 0) hx hb dX2_readTape_4 (by decide) ?_
  refine lv_istore_n (lv' := [(2, .int 0), (0, .ref h0), (1, .ref h1)]) hx hb dX2_readTape_5 rfl hl (by decide) rfl (fun ls hl => ?_)
  have v_75 : 0 ≤ (0 : Int32).toInt := by
    have k_76 : (0 : Int32).toInt = 0 := by decide
    try generalize Int32.toInt r_74.2.2.2.2.2.2.2.2.2.2.2.2 = z0 at *
    try generalize Int32.toInt r_74.1 = z1 at *
    try generalize Int32.toInt ln = z2 at *
    try generalize Int32.toInt (0 : Int32) = z3 at *
    omega
  have v_77 : (0 : Int32).toInt ≤ ln.toInt := by
    have k_78 : (0 : Int32).toInt = 0 := by decide
    try generalize Int32.toInt r_74.2.2.2.2.2.2.2.2.2.2.2.2 = z0 at *
    try generalize Int32.toInt r_74.1 = z1 at *
    try generalize Int32.toInt ln = z2 at *
    try generalize Int32.toInt (0 : Int32) = z3 at *
    omega
  have v_79 : 0 ≤ r_74.2.2.2.2.2.2.2.2.2.2.2.2.toInt := by
    try generalize Int32.toInt r_74.2.2.2.2.2.2.2.2.2.2.2.2 = z0 at *
    try generalize Int32.toInt r_74.1 = z1 at *
    try generalize Int32.toInt ln = z2 at *
    omega
  have v_80 : r_74.2.2.2.2.2.2.2.2.2.2.2.2.toInt ≤ 300 := by
    try generalize Int32.toInt r_74.2.2.2.2.2.2.2.2.2.2.2.2 = z0 at *
    try generalize Int32.toInt r_74.1 = z1 at *
    try generalize Int32.toInt ln = z2 at *
    omega
  have v_81 : 0 ≤ r_74.1.toInt := by
    try generalize Int32.toInt r_74.2.2.2.2.2.2.2.2.2.2.2.2 = z0 at *
    try generalize Int32.toInt r_74.1 = z1 at *
    try generalize Int32.toInt ln = z2 at *
    omega
  have v_82 : r_74.1.toInt ≤ (0 : Int32).toInt := by
    have k_83 : (0 : Int32).toInt = 0 := by decide
    try generalize Int32.toInt r_74.2.2.2.2.2.2.2.2.2.2.2.2 = z0 at *
    try generalize Int32.toInt r_74.1 = z1 at *
    try generalize Int32.toInt ln = z2 at *
    try generalize Int32.toInt (0 : Int32) = z3 at *
    omega
  have v_84 : ln.toInt - (0 : Int32).toInt < ((3001 : Nat) : Int) := by
    have k_85 : (0 : Int32).toInt = 0 := by decide
    try generalize Int32.toInt r_74.2.2.2.2.2.2.2.2.2.2.2.2 = z0 at *
    try generalize Int32.toInt r_74.1 = z1 at *
    try generalize Int32.toInt ln = z2 at *
    try generalize Int32.toInt (0 : Int32) = z3 at *
    omega
  exact loop_6 3001 (0) (r_74.1) (r_74.2.1) (r_74.2.2.1) (r_74.2.2.2.1) (r_74.2.2.2.2.1) (r_74.2.2.2.2.2.1) (r_74.2.2.2.2.2.2.1) (n1) (n2) (n3) (n4) (nb) (r_74.2.2.2.2.2.2.2.1) (r_74.2.2.2.2.2.2.2.2.1) (r_74.2.2.2.2.2.2.2.2.2.1) (r_74.2.2.2.2.2.2.2.2.2.2.1) (r_74.2.2.2.2.2.2.2.2.2.2.2.1) (g0) (g1) (g2) (g3) (g4) (g5) (r_74.2.2.2.2.2.2.2.2.2.2.2.2) (t0) (t1) (t2) (t3) (t4) (t5) _ _ ls hR v_75 v_77 v_79 v_80 v_81 v_82 v_84 hP hD hS (lv_sub hl [1, 2, 0] rfl)
