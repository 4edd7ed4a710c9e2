theorem te_0 {ch wr : Nat → Int32} : TE 0 0 ch 1 0 wr := ⟨rfl, ⟨by decide, by decide⟩, Or.inl ⟨rfl, by decide⟩, fun j hj => absurd hj (by rw [Int32.toInt_zero]; omega)⟩
theorem wt_top {l0 p0 p1 p2 p3 p4 s0 s1 s2 s3 s4 s5 ln ov cn : Int32} {ch t0 t1 t2 t3 t4 t5 : Nat → Int32} {th dc tl xl fo fa mn ft wl x : Int32} {rw ct tx wr : Nat → Int32} {X : Nat} (hx : x.toInt = (X : Int)) (hX : X ≤ 1) (hc : ct x.toNatClampNeg = cn) (hn : 0 ≤ cn.toInt ∧ cn.toInt ≤ 300) (hR : RW cn t0 t1 t2 t3 t4 t5 (fun j => rw (1800 * X + j))) (hL : LnOk t0) : ∀ a, a = fX7_writeTable l0 p0 p1 p2 p3 p4 s0 s1 s2 s3 s4 s5 ch ln ov cn t0 t1 t2 t3 t4 t5 → ∀ b, b = fX9_write th dc tl xl fo fa mn ft wl rw ct tx wr x → WOut xl tx a.1 a.2.2.2.2.2.2.2.2.2.2.2.2.2.1 a.2.2.2.2.2.2.2.2.2.2.2.2.2.2.2 b.1 b.2.2.1 b.2.2.2.2.2.1 := by
  intro a ha b hb
  unfold fX7_writeTable fX6_makeEmpty fX0_startText at ha
  simp only [bnd] at ha
  unfold fX9_write at hb
  rw [if_neg (i_z (by omega)), if_pos (Int32.le_iff_toInt_le.mpr (by rw [k_1]; omega))] at hb
  exact wt_sim hx hX hc (C := cn.toInt.toNat) (by omega) (by omega) hR hL cn.toInt.toNat 301 1110 0 0 0 0 0 0 0 0 _ _ _ _ _ _ 0 0 ch 1 1 0 wr (by decide) (by omega) (by omega) (by rw [Int32.toInt_zero]; omega) L9_0 (fun _ => ⟨rfl, rfl, by decide⟩) (fun j hj => absurd hj (by omega)) ⟨by decide, by decide, by decide, by decide, by decide⟩ te_0 a ha b hb
set_option maxHeartbeats 8000000 in
/-- write on both sides -/
theorem wr_both {h0 d0 d1 d2 d3 d4 d5 d6 w0 w1 w2 b0 b1 z0 z1 z2 z3 z4 z5 o0 o1 o2 o3 o4 o5 : Nat} {lf wq a0 a1 a2 a3 a4 g0 g1 g2 g3 g4 g5 : Int32} {ch : Nat → Int32} {ln ov : Int32} {ch1 : Nat → Int32} {ln1 ov1 cz : Int32} {u0 u1 u2 u3 u4 u5 : Nat → Int32} {co : Int32} {v0 v1 v2 v3 v4 v5 : Nat → Int32} {x th dc tl xl fo fa mn ft wl : Int32} {rw ct tx wr : Nat → Int32} (hz : 0 ≤ cz.toInt ∧ cz.toInt ≤ 300) (ho : 0 ≤ co.toInt ∧ co.toInt ≤ 300) (e0 : cz = ct 0) (e1 : co = ct 1) (hu : LnOk u0) (hv : LnOk v0) (hr0 : RW cz u0 u1 u2 u3 u4 u5 rw) (hr1 : RW co v0 v1 v2 v3 v4 v5 (fun j => rw (1800 + j))) : ∀ rx, rx = fX8_write h0 d0 d1 d2 d3 d4 d5 d6 w0 w1 w2 b0 b1 z0 z1 z2 z3 z4 z5 o0 o1 o2 o3 o4 o5 lf wq a0 a1 a2 a3 a4 g0 g1 g2 g3 g4 g5 ch ln ov ch1 ln1 ov1 cz u0 u1 u2 u3 u4 u5 co v0 v1 v2 v3 v4 v5 x → ∀ rm, rm = fX9_write th dc tl xl fo fa mn ft wl rw ct tx wr x → rx.1 = rm.1 ∧ ((rx.2.1 = d6 ∧ rx.2.2.1 = w2 ∧ rm.2.2.1 = xl ∧ rm.2.2.2.2.2.1 = tx) ∨ (rx.2.1 = w2 ∧ rx.2.2.1 = d6 ∧ rx.2.2.2.2.2.2.2.2.2.2.2.2.2.2.2.1 = rm.2.2.1 ∧ ∀ j : Nat, (j : Int) < rx.2.2.2.2.2.2.2.2.2.2.2.2.2.2.2.1.toInt → rx.2.2.2.2.2.2.2.2.2.2.2.2.2.2.2.2.2 j = rm.2.2.2.2.2.1 j)) := by
  intro rx hrx rm hrm
  unfold fX8_write at hrx
  simp only [bnd] at hrx
  by_cases x0 : x = 0
  · rw [if_pos x0] at hrx
    have h0' : RW cz u0 u1 u2 u3 u4 u5 (fun j => rw (1800 * 0 + j)) := rw_same hr0 hz.2 (fun i _ => by show rw (1800 * 0 + i) = rw i; congr 1; omega)
    have q := wt_top (l0 := wq) (p0 := a0) (p1 := a1) (p2 := a2) (p3 := a3) (p4 := a4) (s0 := g0) (s1 := g1) (s2 := g2) (s3 := g3) (s4 := g4) (s5 := g5) (ln := ln) (ov := ov) (ch := ch) (x := x) (X := 0) (by rw [x0]; decide) (by omega) (show ct x.toNatClampNeg = cz by rw [x0, e0]; rfl) hz h0' hu _ rfl rm hrm
    generalize fX7_writeTable wq a0 a1 a2 a3 a4 g0 g1 g2 g3 g4 g5 ch ln ov cz u0 u1 u2 u3 u4 u5 = w at hrx q
    rcases q with ⟨q1, q2, q3, q4⟩ | ⟨q1, q2, q3, q4⟩
    · rw [if_neg (by rw [q1]; decide)] at hrx
      subst hrx
      exact ⟨q2.symm, Or.inr ⟨rfl, rfl, q3.symm, q4⟩⟩
    · rw [if_pos q1] at hrx
      subst hrx
      exact ⟨q2.symm, Or.inl ⟨rfl, rfl, q3, q4⟩⟩
  · rw [if_neg x0] at hrx
    by_cases x1 : x = 1
    · rw [if_pos x1] at hrx
      have q := wt_top (l0 := wq) (p0 := a0) (p1 := a1) (p2 := a2) (p3 := a3) (p4 := a4) (s0 := g0) (s1 := g1) (s2 := g2) (s3 := g3) (s4 := g4) (s5 := g5) (ln := ln) (ov := ov) (ch := ch) (x := x) (X := 1) (by rw [x1]; decide) (by omega) (show ct x.toNatClampNeg = co by rw [x1, e1]; rfl) ho hr1 hv _ rfl rm hrm
      generalize fX7_writeTable wq a0 a1 a2 a3 a4 g0 g1 g2 g3 g4 g5 ch ln ov co v0 v1 v2 v3 v4 v5 = w at hrx q
      rcases q with ⟨q1, q2, q3, q4⟩ | ⟨q1, q2, q3, q4⟩
      · rw [if_neg (by rw [q1]; decide)] at hrx
        subst hrx
        exact ⟨q2.symm, Or.inr ⟨rfl, rfl, q3.symm, q4⟩⟩
      · rw [if_pos q1] at hrx
        subst hrx
        exact ⟨q2.symm, Or.inl ⟨rfl, rfl, q3, q4⟩⟩
    · rw [if_neg x1] at hrx
      have hno : rm = (-1, 0, xl, ft, wl, tx, wr) := by
        unfold fX9_write at hrm
        by_cases y1 : x < 0
        · rw [if_pos y1] at hrm; exact hrm
        · rw [if_neg y1, if_neg (fun q => by
            have a0 := i_ne x0
            have a1 := i_ne x1
            have a2 := i_nlt y1
            have a3 := i_le q
            rw [Int32.toInt_zero] at a0 a2
            rw [k_1] at a1 a3
            omega)] at hrm
          exact hrm
      subst hrx; subst hno
      exact ⟨rfl, Or.inl ⟨rfl, rfl, rfl, rfl⟩⟩
def TXT (ln1 : Int32) (ch1 : Nat → Int32) (xl : Int32) (tx : Nat → Int32) : Prop := ln1 = xl ∧ ∀ j : Nat, (j : Int) < ln1.toInt → ch1 j = tx j
theorem txt_0 {ch1 tx : Nat → Int32} : TXT 0 ch1 0 tx := ⟨rfl, fun j hj => absurd hj (by rw [Int32.toInt_zero]; omega)⟩
/-- textAt on both sides: both refuse, or both answer one character -/
theorem ta_in {lf ln1 ov1 x th dc tl xl fo fa mn ft wl : Int32} {ch1 tx : Nat → Int32} (h : TXT ln1 ch1 xl tx) (h0 : 0 ≤ x.toInt) (h1 : x.toInt < ln1.toInt) : fX9_textAt th dc tl xl fo fa mn ft wl tx x = (fX8_textAt lf ch1 ln1 ov1 x, 0) := by
  unfold fX9_textAt fX8_textAt
  have e := h.1
  rw [if_neg (i_z h0), if_neg (i_z h0), if_pos (Int32.lt_iff_toInt_lt.mpr (by rw [← e]; exact h1)), if_pos (Int32.lt_iff_toInt_lt.mpr h1), h.2 _ (by show ((x.toInt.toNat : Nat) : Int) < _; omega)]
theorem ta_out {ln1 x th dc tl xl fo fa mn ft wl : Int32} {ch1 tx : Nat → Int32} (h : TXT ln1 ch1 xl tx) (h0 : x.toInt < 0 ∨ ln1.toInt ≤ x.toInt) : fX9_textAt th dc tl xl fo fa mn ft wl tx x = (0, 1) := by
  unfold fX9_textAt
  have e := h.1
  by_cases c : x < 0
  · rw [if_pos c]
  · have c' := nn_ge c
    rw [if_neg c, if_neg (fun q => by have := i_lt q; rw [← e] at this; omega)]
/-- ask of empty tables -/
theorem as_0 {lf cz co x y z w th dc tl xl fo fa mn ft wl : Int32} {u0 u1 u2 u3 u4 u5 v0 v1 v2 v3 v4 v5 rw ct : Nat → Int32} (e0 : cz = ct 0) (e1 : co = ct 1) (hz : cz = 0) (ho : co = 0) : fX8_ask lf cz u0 u1 u2 u3 u4 u5 co v0 v1 v2 v3 v4 v5 x y z w = (fX9_ask th dc tl xl fo fa mn ft wl rw ct x y z w).1 := by
  have a : fX8_ask lf cz u0 u1 u2 u3 u4 u5 co v0 v1 v2 v3 v4 v5 x y z w = -1 := by
    have f : ∀ t0 t1 t2, fX4_findTelling 0 t0 t1 t2 y z = -1 := fun t0 t1 t2 => by
      unfold fX4_findTelling
      rw [show (302 : Nat) = 301 + 1 from rfl, fX4_findTelling_7, if_pos (by decide)]
    unfold fX8_ask
    rw [hz, ho]
    simp only [bnd, f]
    rw [if_neg (show ¬ (0 : Int32) ≤ -1 by decide)]
    repeat' split
    all_goals first | rfl | exact absurd (show (0 : Int32) ≤ -1 by assumption) (by decide)
  have b : (fX9_ask th dc tl xl fo fa mn ft wl rw ct x y z w).1 = -1 := by
    have s : ∀ k : Int32, k = 0 ∨ k = 1 → fX9_segmentOf 0 dc tl xl fo fa mn ft wl rw ct k y z = -1 := fun k hk => by
      have ek : ct k.toNatClampNeg = 0 := by
        rcases hk with q | q
        · rw [q]; exact e0.symm.trans hz
        · rw [q]; exact e1.symm.trans ho
      unfold fX9_segmentOf
      rw [show (301 : Nat) = 300 + 1 from rfl, fX9_segmentOf_6, ek, if_pos (by decide)]
    unfold fX9_ask
    by_cases c0 : x < 0
    · rw [if_pos c0]
    · rw [if_neg c0]
      by_cases c1 : 1 < x
      · rw [if_pos c1]
      · have hx : x = 0 ∨ x = 1 := by
          have a2 := nn_ge c0
          have a3 := i_nlt c1
          rw [k_1] at a3
          rcases Int.lt_or_le x.toInt 1 with q | q
          · exact Or.inl (Int32.toInt_inj.mp (by rw [Int32.toInt_zero]; omega))
          · exact Or.inr (Int32.toInt_inj.mp (by rw [k_1]; omega))
        simp only [bnd, s x hx]
        rw [if_neg c1, if_neg (show ¬ (0 : Int32) ≤ -1 by decide)]
        repeat' split
        all_goals first | rfl | exact absurd (show (0 : Int32) ≤ -1 by assumption) (by decide)
  rw [a, b]

