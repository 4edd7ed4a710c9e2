/-! the law's world and what stays true of it -/
def LI (ln cn cz co ln2 ln1 xl : Int32) (t0 u0 v0 ct rr dr : Nat → Int32) : Prop := (0 ≤ ln.toInt ∧ ln.toInt ≤ 3000) ∧ (0 ≤ cn.toInt ∧ cn.toInt ≤ 300) ∧ (0 ≤ cz.toInt ∧ cz.toInt ≤ 300) ∧ (0 ≤ co.toInt ∧ co.toInt ≤ 300) ∧ (0 ≤ ln2.toInt ∧ ln2.toInt ≤ 6000) ∧ (0 ≤ ln1.toInt ∧ ln1.toInt ≤ 6000) ∧ (0 ≤ xl.toInt ∧ xl.toInt ≤ 6000) ∧ LnOk t0 ∧ LnOk u0 ∧ LnOk v0 ∧ CtOk ct ∧ R6 rr ∧ R6 dr
def LW (dC : Nat → ClassId) (dI : Nat → Nat → Nat) (cB cC cI cJ : ClassId) (A : Nat → Prop) (h0 m0 p0 : Nat) (H : Heap) : Prop := ∃ (d0 b0 d1 r0 r1 r2 r3 r4 q0 q1 q2 q3 q4 q5 d4 z0 z1 z2 z3 z4 z5 d5 o0 o1 o2 o3 o4 o5 d2 w0 w1 w2 b1 d6 b2 d3 k0 k1 k2 k3 k4 k5 k6 k7 : Nat) (lf ln nc ss ib li ff fp n0 n1 n3 n4 a0 a1 a2 a3 a4 g0 g1 g2 g3 g4 g5 cn cz co wl c0 c1 c2 c3 c4 s0 s1 s2 s3 s4 s5 ln2 ov2 ln1 ov1 j0 j1 j2 j3 j4 j5 th dc xl fo fa mn ft ml : Int32) (n2 : Int64) (bt t0 t1 t2 t3 t4 t5 u0 u1 u2 u3 u4 u5 v0 v1 v2 v3 v4 v5 ch2 ch1 rr ct dr tp tx wr : Nat → Int32) (nb nu la ou : Nat → Int64), va_P (dC, dI) vwCl [(h0, .inr (8, [.ref d0, .ref d1, .ref d2, .ref d3, .ref d4, .ref d5, .ref d6, .int lf])), (d0, .inr (5, [.ref b0, .int ln])), (b0, .inl (cB, 3000, .inl bt)), (d1, .inr (2, [.ref r0, .ref r1, .ref r2, .ref r3, .ref r4, .int nc, .int ss, .int ib, .int li, .int ff, .int fp])), (r0, .inr (1, [.int n0, .int n1, .long n2, .int n3, .int n4])), (r1, .inl (cJ, 5, .inr (.inl nb))), (r2, .inr (0, [.int a0, .int a1, .int a2, .int a3, .int a4])), (r3, .inr (3, [.int g0, .int g1, .int g2, .int g3, .int g4, .int g5])), (r4, .inr (4, [.ref q0, .ref q1, .ref q2, .ref q3, .ref q4, .ref q5, .int cn])), (q0, .inl (cI, 300, .inl t0)), (q1, .inl (cI, 300, .inl t1)), (q2, .inl (cI, 300, .inl t2)), (q3, .inl (cI, 300, .inl t3)), (q4, .inl (cI, 300, .inl t4)), (q5, .inl (cI, 300, .inl t5)), (d4, .inr (4, [.ref z0, .ref z1, .ref z2, .ref z3, .ref z4, .ref z5, .int cz])), (z0, .inl (cI, 300, .inl u0)), (z1, .inl (cI, 300, .inl u1)), (z2, .inl (cI, 300, .inl u2)), (z3, .inl (cI, 300, .inl u3)), (z4, .inl (cI, 300, .inl u4)), (z5, .inl (cI, 300, .inl u5)), (d5, .inr (4, [.ref o0, .ref o1, .ref o2, .ref o3, .ref o4, .ref o5, .int co])), (o0, .inl (cI, 300, .inl v0)), (o1, .inl (cI, 300, .inl v1)), (o2, .inl (cI, 300, .inl v2)), (o3, .inl (cI, 300, .inl v3)), (o4, .inl (cI, 300, .inl v4)), (o5, .inl (cI, 300, .inl v5)), (d2, .inr (7, [.ref w0, .ref w1, .ref w2, .int wl])), (w0, .inr (0, [.int c0, .int c1, .int c2, .int c3, .int c4])), (w1, .inr (3, [.int s0, .int s1, .int s2, .int s3, .int s4, .int s5])), (w2, .inr (6, [.ref b1, .int ln2, .int ov2])), (b1, .inl (cC, 6000, .inl ch2)), (d6, .inr (6, [.ref b2, .int ln1, .int ov1])), (b2, .inl (cC, 6000, .inl ch1)), (d3, .inr (3, [.int j0, .int j1, .int j2, .int j3, .int j4, .int j5])), (m0, .inr (9, [.int th, .ref k0, .ref k1, .ref k2, .int dc, .ref k3, .int ln, .ref k4, .int xl, .int fo, .int fa, .ref k5, .int mn, .ref k6, .int ft, .ref k7, .int ml])), (k0, .inl (cI, 3600, .inl rr)), (k1, .inl (cI, 2, .inl ct)), (k2, .inl (cI, 1800, .inl dr)), (k3, .inl (cB, 3000, .inl tp)), (k4, .inl (cB, 6000, .inl tx)), (k5, .inl (cJ, 6, .inr (.inl nu))), (k6, .inl (cJ, 6, .inr (.inl la))), (k7, .inl (cB, 6000, .inl wr)), (p0, .inl (cJ, 1, .inr (.inl ou)))] H ∧ va_D A [(h0, .inr (8, [.ref d0, .ref d1, .ref d2, .ref d3, .ref d4, .ref d5, .ref d6, .int lf])), (d0, .inr (5, [.ref b0, .int ln])), (b0, .inl (cB, 3000, .inl bt)), (d1, .inr (2, [.ref r0, .ref r1, .ref r2, .ref r3, .ref r4, .int nc, .int ss, .int ib, .int li, .int ff, .int fp])), (r0, .inr (1, [.int n0, .int n1, .long n2, .int n3, .int n4])), (r1, .inl (cJ, 5, .inr (.inl nb))), (r2, .inr (0, [.int a0, .int a1, .int a2, .int a3, .int a4])), (r3, .inr (3, [.int g0, .int g1, .int g2, .int g3, .int g4, .int g5])), (r4, .inr (4, [.ref q0, .ref q1, .ref q2, .ref q3, .ref q4, .ref q5, .int cn])), (q0, .inl (cI, 300, .inl t0)), (q1, .inl (cI, 300, .inl t1)), (q2, .inl (cI, 300, .inl t2)), (q3, .inl (cI, 300, .inl t3)), (q4, .inl (cI, 300, .inl t4)), (q5, .inl (cI, 300, .inl t5)), (d4, .inr (4, [.ref z0, .ref z1, .ref z2, .ref z3, .ref z4, .ref z5, .int cz])), (z0, .inl (cI, 300, .inl u0)), (z1, .inl (cI, 300, .inl u1)), (z2, .inl (cI, 300, .inl u2)), (z3, .inl (cI, 300, .inl u3)), (z4, .inl (cI, 300, .inl u4)), (z5, .inl (cI, 300, .inl u5)), (d5, .inr (4, [.ref o0, .ref o1, .ref o2, .ref o3, .ref o4, .ref o5, .int co])), (o0, .inl (cI, 300, .inl v0)), (o1, .inl (cI, 300, .inl v1)), (o2, .inl (cI, 300, .inl v2)), (o3, .inl (cI, 300, .inl v3)), (o4, .inl (cI, 300, .inl v4)), (o5, .inl (cI, 300, .inl v5)), (d2, .inr (7, [.ref w0, .ref w1, .ref w2, .int wl])), (w0, .inr (0, [.int c0, .int c1, .int c2, .int c3, .int c4])), (w1, .inr (3, [.int s0, .int s1, .int s2, .int s3, .int s4, .int s5])), (w2, .inr (6, [.ref b1, .int ln2, .int ov2])), (b1, .inl (cC, 6000, .inl ch2)), (d6, .inr (6, [.ref b2, .int ln1, .int ov1])), (b2, .inl (cC, 6000, .inl ch1)), (d3, .inr (3, [.int j0, .int j1, .int j2, .int j3, .int j4, .int j5])), (m0, .inr (9, [.int th, .ref k0, .ref k1, .ref k2, .int dc, .ref k3, .int ln, .ref k4, .int xl, .int fo, .int fa, .ref k5, .int mn, .ref k6, .int ft, .ref k7, .int ml])), (k0, .inl (cI, 3600, .inl rr)), (k1, .inl (cI, 2, .inl ct)), (k2, .inl (cI, 1800, .inl dr)), (k3, .inl (cB, 3000, .inl tp)), (k4, .inl (cB, 6000, .inl tx)), (k5, .inl (cJ, 6, .inr (.inl nu))), (k6, .inl (cJ, 6, .inr (.inl la))), (k7, .inl (cB, 6000, .inl wr)), (p0, .inl (cJ, 1, .inr (.inl ou)))] ∧ LI ln cn cz co ln2 ln1 xl t0 u0 v0 ct rr dr
theorem fd_both {ln : Int32} {x y : Int32} {a b : Int32} (h : (ln.toInt + 20 ≤ 3000 ∧ x = 1 ∧ a.toInt = ln.toInt + 20) ∨ (3000 < ln.toInt + 20 ∧ x = 0 ∧ a = ln)) (h' : (ln.toInt + 20 ≤ 3000 ∧ y = 1 ∧ b.toInt = ln.toInt + 20) ∨ (3000 < ln.toInt + 20 ∧ y = 0 ∧ b = ln)) : x = y ∧ b = a := by
  rcases h with ⟨h1, h2, h3⟩ | ⟨h1, h2, h3⟩ <;> rcases h' with ⟨k1, k2, k3⟩ | ⟨k1, k2, k3⟩
  · exact ⟨h2.trans k2.symm, Int32.toInt_inj.mp (k3.trans h3.symm)⟩
  · omega
  · omega
  · exact ⟨h2.trans k2.symm, k3.trans h3.symm⟩
theorem en_both {th dc tl xl fo fa mn ft wl lf x : Int32} {bt : Nat → Int32} : (fX9_end th dc tl xl fo fa mn ft wl x).2.2 = (fX8_end lf bt tl x).2 ∧ (fX8_end lf bt tl x).1 = (fX9_end th dc tl xl fo fa mn ft wl x).1 := by
  unfold fX9_end fX8_end
  split
  · exact ⟨rfl, rfl⟩
  · split <;> exact ⟨rfl, rfl⟩
theorem en_bd {ln lf x : Int32} {bt : Nat → Int32} (h0 : 0 ≤ ln.toInt) (h1 : ln.toInt ≤ 3000) : 0 ≤ (fX8_end lf bt ln x).2.toInt ∧ (fX8_end lf bt ln x).2.toInt ≤ 3000 := by
  unfold fX8_end
  split
  · exact ⟨h0, h1⟩
  · rename_i c0
    have c0 := i_nlt c0
    rw [Int32.toInt_zero] at c0
    split
    · rename_i c1
      have c1 := i_le c1
      exact ⟨c0, by show x.toInt ≤ 3000; omega⟩
    · exact ⟨h0, h1⟩
theorem lin_ok {rr ct : Nat → Int32} {x : Int32} (h : R6 rr) (hct : CtOk ct) : 0 ≤ x.toInt → x.toInt ≤ 1 → ∀ k : Int32, 0 ≤ k.toInt → k.toInt < (ct x.toNatClampNeg).toInt → (rr ((1800 * x) + (6 * k)).toNatClampNeg).toInt ≤ 199 := fun h0 h1 k hk0 hk1 => by
  have q := hct x.toNatClampNeg (cl_lt h0 (by omega))
  have e := rowi (k := k) h0 h1 hk0 (by omega)
  refine (h _ ?_).2
  show ((1800 * x) + (6 * k)).toInt.toNat % 6 = 0
  omega
theorem cl_class {lf cz co x : Int32} (h : 0 ≤ cz.toInt ∧ cz.toInt ≤ 300) (h' : 0 ≤ co.toInt ∧ co.toInt ≤ 300) : (0 ≤ (fX8_clear lf cz co x).2.1.toInt ∧ (fX8_clear lf cz co x).2.1.toInt ≤ 300) ∧ (0 ≤ (fX8_clear lf cz co x).2.2.toInt ∧ (fX8_clear lf cz co x).2.2.toInt ≤ 300) := by
  unfold fX8_clear
  split
  · exact ⟨⟨by decide, by decide⟩, h'⟩
  · split
    · exact ⟨h, ⟨by decide, by decide⟩⟩
    · exact ⟨h, h'⟩
theorem cl_model {th dc tl xl fo fa mn ft wl x : Int32} {ct : Nat → Int32} (h : CtOk ct) : CtOk (fX9_clear th dc tl xl fo fa mn ft wl ct x).2.2 := by
  unfold fX9_clear
  split
  · exact h
  · split
    · exact ct_upd h (by decide) (by decide)
    · exact h
