theorem r49_out {th dc tl xl fo fa mn ft wl x : Int32} {rw ct dr tp : Nat → Int32} {nu la : Nat → Int64} (hx0 : 0 ≤ x.toInt) (hx1 : x.toInt ≤ 1) : ∀ (n : Nat) (k : Int32) (rz : Nat → Int32) (dcz foz faz mnz : Int32) (drz : Nat → Int32) (nuz laz : Nat → Int64), 0 ≤ k.toInt → 0 ≤ dcz.toInt → dcz.toInt ≤ 300 → 6 * dcz.toInt - k.toInt < n → 0 < n → ∀ r, r = fX9_read_49 th dc tl xl fo fa mn ft wl rw ct dr tp nu la x n k rz dcz foz faz mnz drz nuz laz → r.1 = dcz ∧ r.2.2.2.2.1 = foz ∧ r.2.2.2.2.2.2.2.2.1 = upd ct x.toNatClampNeg dcz ∧ ∀ j : Nat, r.2.2.2.2.2.2.2.1 j = if 1800 * x.toInt.toNat + k.toInt.toNat ≤ j ∧ j < 1800 * x.toInt.toNat + 6 * dcz.toInt.toNat then drz (j - 1800 * x.toInt.toNat) else rz j := by
  intro n
  induction n with
  | zero =>
    intro k rz dcz foz faz mnz drz nuz laz h1 h2 h3 h4 h5; exact absurd h5 (by omega)
  | succ n ih =>
    intro k rz dcz foz faz mnz drz nuz laz hk hd0 hd1 hn _ r hr
    have e6 := six hd0 (by omega)
    rw [fX9_read_49] at hr
    by_cases c : (6 * dcz) ≤ k
    · rw [if_pos c] at hr
      have c := i_le c
      subst hr
      exact ⟨rfl, rfl, rfl, fun j => by rw [if_neg (by omega)]⟩
    · rw [if_neg c] at hr
      have c := i_nle c
      have e : (k + 1).toInt = k.toInt + 1 := by rw [ti_add (by rw [show (1 : Int32).toInt = 1 from by decide]; omega) (by rw [show (1 : Int32).toInt = 1 from by decide]; omega), show (1 : Int32).toInt = 1 from by decide]
      have e2 := e18 hx0 hx1
      have e1 : ((1800 * x) + k).toInt = 1800 * x.toInt + k.toInt := by rw [ti_add (by omega) (by omega), e2]
      obtain ⟨r1, r2, r3, r4⟩ := ih _ _ _ _ _ _ _ _ _ (by omega) hd0 hd1 (by omega) (by omega) r hr
      refine ⟨r1, r2, r3, fun j => ?_⟩
      rw [r4 j]
      unfold upd
      have n1 : ((1800 * x) + k).toNatClampNeg = 1800 * x.toInt.toNat + k.toInt.toNat := by show ((1800 * x) + k).toInt.toNat = _; omega
      have n2 : (k + 1).toInt.toNat = k.toInt.toNat + 1 := by omega
      have n3 : k.toNatClampNeg = k.toInt.toNat := rfl
      rw [n1, n2, n3]
      by_cases a : 1800 * x.toInt.toNat + (k.toInt.toNat + 1) ≤ j ∧ j < 1800 * x.toInt.toNat + 6 * dcz.toInt.toNat
      · rw [if_pos a, if_pos (by omega)]
      · rw [if_neg a]
        by_cases b : j = 1800 * x.toInt.toNat + k.toInt.toNat
        · rw [if_pos b, if_pos (by omega), b, show 1800 * x.toInt.toNat + k.toInt.toNat - 1800 * x.toInt.toNat = k.toInt.toNat by omega]
        · rw [if_neg b, if_neg (by omega)]
set_option maxHeartbeats 4000000 in
theorem rd_both {h0 d0 d1 d2 d3 d4 d5 d6 b0 r0 r1 r2 r3 r4 q0 q1 q2 q3 q4 q5 z0 z1 z2 z3 z4 z5 o0 o1 o2 o3 o4 o5 : Nat} {lf : Int32} {bt : Nat → Int32} {ln : Int32} {nc ss ib li ff fp n0 n1 : Int32} {n2 : Int64} {n3 n4 : Int32} {nb : Nat → Int64} {a0 a1 a2 a3 a4 g0 g1 g2 g3 g4 g5 cn : Int32} {t0 t1 t2 t3 t4 t5 : Nat → Int32} {cz : Int32} {u0 u1 u2 u3 u4 u5 : Nat → Int32} {co : Int32} {v0 v1 v2 v3 v4 v5 : Nat → Int32} {x th dc xl fo fa mn ft wl : Int32} {rw ct dr tp : Nat → Int32} {nu la : Nat → Int64} (ht : TapeEq ln bt tp) (hl0 : 0 ≤ ln.toInt) (hl1 : ln.toInt ≤ 3000) (hd6 : R6 dr) : ∀ rx, rx = fX8_read h0 d0 d1 d2 d3 d4 d5 d6 b0 r0 r1 r2 r3 r4 q0 q1 q2 q3 q4 q5 z0 z1 z2 z3 z4 z5 o0 o1 o2 o3 o4 o5 lf bt ln nc ss ib li ff fp n0 n1 n2 n3 n4 nb a0 a1 a2 a3 a4 g0 g1 g2 g3 g4 g5 cn t0 t1 t2 t3 t4 t5 cz u0 u1 u2 u3 u4 u5 co v0 v1 v2 v3 v4 v5 x → ∀ rm, rm = fX9_read th dc ln xl fo fa mn ft wl rw ct dr tp nu la x → rx.1 = rm.1 ∧ rx.2.2.2.1 = rm.2.2.2.2.1 ∧ (((rx.2.1 = d4 ∧ rx.2.2.1 = d5 ∧ rx.2.2.2.2.2.1 = r4) ∧ rm.2.2.2.2.2.2.2.2.1 = ct ∧ rm.2.2.2.2.2.2.2.1 = rw) ∨ (x = 0 ∧ (rx.2.1 = r4 ∧ rx.2.2.1 = d5 ∧ rx.2.2.2.2.2.1 = d4) ∧ rm.2.2.2.2.2.2.2.2.1 = upd ct x.toNatClampNeg rx.2.2.2.2.2.2.2.2.2.2.2.2.2.2.2.2.2.2.2.2.2.2.2.2.2.2.2.2.2.1 ∧ RW rx.2.2.2.2.2.2.2.2.2.2.2.2.2.2.2.2.2.2.2.2.2.2.2.2.2.2.2.2.2.1 rx.2.2.2.2.2.2.2.2.2.2.2.2.2.2.2.2.2.2.2.2.2.2.2.2.2.2.2.2.2.2.1 rx.2.2.2.2.2.2.2.2.2.2.2.2.2.2.2.2.2.2.2.2.2.2.2.2.2.2.2.2.2.2.2.1 rx.2.2.2.2.2.2.2.2.2.2.2.2.2.2.2.2.2.2.2.2.2.2.2.2.2.2.2.2.2.2.2.2.1 rx.2.2.2.2.2.2.2.2.2.2.2.2.2.2.2.2.2.2.2.2.2.2.2.2.2.2.2.2.2.2.2.2.2.1 rx.2.2.2.2.2.2.2.2.2.2.2.2.2.2.2.2.2.2.2.2.2.2.2.2.2.2.2.2.2.2.2.2.2.2.1 rx.2.2.2.2.2.2.2.2.2.2.2.2.2.2.2.2.2.2.2.2.2.2.2.2.2.2.2.2.2.2.2.2.2.2.2 (fun j => rm.2.2.2.2.2.2.2.1 (1800 * x.toInt.toNat + j)) ∧ (∀ j : Nat, ¬ (1800 * x.toInt.toNat ≤ j ∧ j < 1800 * x.toInt.toNat + 1800) → rm.2.2.2.2.2.2.2.1 j = rw j)) ∨ (x = 1 ∧ (rx.2.1 = d4 ∧ rx.2.2.1 = r4 ∧ rx.2.2.2.2.2.1 = d5) ∧ rm.2.2.2.2.2.2.2.2.1 = upd ct x.toNatClampNeg rx.2.2.2.2.2.2.2.2.2.2.2.2.2.2.2.2.2.2.2.2.2.2.2.2.2.2.2.2.2.1 ∧ RW rx.2.2.2.2.2.2.2.2.2.2.2.2.2.2.2.2.2.2.2.2.2.2.2.2.2.2.2.2.2.1 rx.2.2.2.2.2.2.2.2.2.2.2.2.2.2.2.2.2.2.2.2.2.2.2.2.2.2.2.2.2.2.1 rx.2.2.2.2.2.2.2.2.2.2.2.2.2.2.2.2.2.2.2.2.2.2.2.2.2.2.2.2.2.2.2.1 rx.2.2.2.2.2.2.2.2.2.2.2.2.2.2.2.2.2.2.2.2.2.2.2.2.2.2.2.2.2.2.2.2.1 rx.2.2.2.2.2.2.2.2.2.2.2.2.2.2.2.2.2.2.2.2.2.2.2.2.2.2.2.2.2.2.2.2.2.1 rx.2.2.2.2.2.2.2.2.2.2.2.2.2.2.2.2.2.2.2.2.2.2.2.2.2.2.2.2.2.2.2.2.2.2.1 rx.2.2.2.2.2.2.2.2.2.2.2.2.2.2.2.2.2.2.2.2.2.2.2.2.2.2.2.2.2.2.2.2.2.2.2 (fun j => rm.2.2.2.2.2.2.2.1 (1800 * x.toInt.toNat + j)) ∧ (∀ j : Nat, ¬ (1800 * x.toInt.toNat ≤ j ∧ j < 1800 * x.toInt.toNat + 1800) → rm.2.2.2.2.2.2.2.1 j = rw j))) := by
  intro rx hrx rm hrm
  have hs := rd_sim (nc := nc) (ss := ss) (ib := ib) (li := li) (ff := ff) (fp := fp) (n0 := n0) (n1 := n1) (n2 := n2) (n3 := n3) (n4 := n4) (nb := nb) (a0 := a0) (a1 := a1) (a2 := a2) (a3 := a3) (a4 := a4) (g0 := g0) (g1 := g1) (g2 := g2) (g3 := g3) (g4 := g4) (g5 := g5) (cn := cn) (t0 := t0) (t1 := t1) (t2 := t2) (t3 := t3) (t4 := t4) (t5 := t5) (bt := bt) (tp := tp) (dr := dr) (nu := nu) (la := la) (ln := ln) (th := 0) (dc := dc) (tl := 0) (xl := xl) (fo := 0) (fa := fa) (mn := mn) (ft := ft) (wl := wl) ht hl0 hl1
  have hg := sgRead (th := 0) (dc := dc) (tl := 0) (xl := xl) (fo := 0) (fa := fa) (mn := mn) (ft := ft) (wl := wl) (nn := ln) (tp := tp) (nu := nu) (la := la) hd6 _ rfl
  unfold fX8_read at hrx
  simp only [bnd] at hrx
  unfold fX9_read at hrm
  simp only [bnd] at hrm
  generalize fX2_readTape nc ss ib li ff fp n0 n1 n2 n3 n4 nb a0 a1 a2 a3 a4 g0 g1 g2 g3 g4 g5 cn t0 t1 t2 t3 t4 t5 bt ln = R at hrx hs
  generalize fX9_readAll 0 dc 0 xl 0 fa mn ft wl dr tp nu la ln = w at hrm hs hg
  have hone : ∀ y : Int32, y = 0 ∨ y = 1 → ¬ y < 0 ∧ y ≤ 1 ∧ 0 ≤ y.toInt ∧ y.toInt ≤ 1 := fun y hy => by rcases hy with q | q <;> subst q <;> decide
  by_cases x0 : x = 0
  · rw [if_pos x0] at hrx
    obtain ⟨y1, y2, y3, y4⟩ := hone x (Or.inl x0)
    rw [if_neg y1, if_pos y2] at hrm
    rcases hs with ⟨k1, k2, k3, k4⟩ | ⟨k1, k2, k3, k4, k5⟩
    · rw [if_neg k2] at hrx
      rw [if_pos k1] at hrm
      subst hrx; subst hrm
      exact ⟨by show (-2 : Int32) - s_fp R = -2 - w.2.2.2.1; rw [k4], k3, Or.inl ⟨⟨rfl, rfl, rfl⟩, rfl, rfl⟩⟩
    · rw [if_pos k2] at hrx
      rw [if_neg (by rw [k1]; exact nz1)] at hrm
      obtain ⟨r1, r2, r3, r4⟩ := r49_out y3 y4 _ _ _ _ _ _ _ _ _ _ (by decide) hg.1.1 hg.1.2 (by have := hg.1.2; rw [Int32.toInt_zero]; omega) (by decide) rm hrm
      subst hrx
      refine ⟨k4.trans r1.symm, by rw [r2, k3]; exact k2, Or.inr (Or.inl ⟨x0, ⟨rfl, rfl, rfl⟩, ?_, ?_, ?_⟩)⟩
      · rw [r3]; show _ = upd ct x.toNatClampNeg (s_cn R); rw [k4]
      · intro j hj
        have hj : (j : Int) < (s_cn R).toInt := hj
        have q := k5 j hj
        rw [k4] at hj
        have g0 := hg.1.1
        have hin : ∀ i : Nat, i < 6 → rm.2.2.2.2.2.2.2.1 (1800 * x.toInt.toNat + (6 * j + i)) = w.2.2.2.2.2.1 (6 * j + i) := fun i hi => by
          rw [r4, if_pos (by rw [Int32.toInt_zero]; omega), show 1800 * x.toInt.toNat + (6 * j + i) - 1800 * x.toInt.toNat = 6 * j + i by omega]
        exact ⟨(hin 0 (by omega)).trans q.1, (hin 1 (by omega)).trans q.2.1, (hin 2 (by omega)).trans q.2.2.1, fun z => ⟨(hin 3 (by omega)).trans (q.2.2.2.1 z).1, (hin 4 (by omega)).trans (q.2.2.2.1 z).2⟩, (hin 5 (by omega)).trans q.2.2.2.2.1, q.2.2.2.2.2⟩
      · intro j hj
        have g1 := hg.1.2
        rw [r4, if_neg (by rw [Int32.toInt_zero]; omega)]
  · rw [if_neg x0] at hrx
    by_cases x1 : x = 1
    · rw [if_pos x1] at hrx
      obtain ⟨y1, y2, y3, y4⟩ := hone x (Or.inr x1)
      rw [if_neg y1, if_pos y2] at hrm
      rcases hs with ⟨k1, k2, k3, k4⟩ | ⟨k1, k2, k3, k4, k5⟩
      · rw [if_neg k2] at hrx
        rw [if_pos k1] at hrm
        subst hrx; subst hrm
        exact ⟨by show (-2 : Int32) - s_fp R = -2 - w.2.2.2.1; rw [k4], k3, Or.inl ⟨⟨rfl, rfl, rfl⟩, rfl, rfl⟩⟩
      · rw [if_pos k2] at hrx
        rw [if_neg (by rw [k1]; exact nz1)] at hrm
        obtain ⟨r1, r2, r3, r4⟩ := r49_out y3 y4 _ _ _ _ _ _ _ _ _ _ (by decide) hg.1.1 hg.1.2 (by have := hg.1.2; rw [Int32.toInt_zero]; omega) (by decide) rm hrm
        subst hrx
        refine ⟨k4.trans r1.symm, by rw [r2, k3]; exact k2, Or.inr (Or.inr ⟨x1, ⟨rfl, rfl, rfl⟩, ?_, ?_, ?_⟩)⟩
        · rw [r3]; show _ = upd ct x.toNatClampNeg (s_cn R); rw [k4]
        · intro j hj
          have hj : (j : Int) < (s_cn R).toInt := hj
          have q := k5 j hj
          rw [k4] at hj
          have g0 := hg.1.1
          have hin : ∀ i : Nat, i < 6 → rm.2.2.2.2.2.2.2.1 (1800 * x.toInt.toNat + (6 * j + i)) = w.2.2.2.2.2.1 (6 * j + i) := fun i hi => by
            rw [r4, if_pos (by rw [Int32.toInt_zero]; omega), show 1800 * x.toInt.toNat + (6 * j + i) - 1800 * x.toInt.toNat = 6 * j + i by omega]
          exact ⟨(hin 0 (by omega)).trans q.1, (hin 1 (by omega)).trans q.2.1, (hin 2 (by omega)).trans q.2.2.1, fun z => ⟨(hin 3 (by omega)).trans (q.2.2.2.1 z).1, (hin 4 (by omega)).trans (q.2.2.2.1 z).2⟩, (hin 5 (by omega)).trans q.2.2.2.2.1, q.2.2.2.2.2⟩
        · intro j hj
          have g1 := hg.1.2
          rw [r4, if_neg (by rw [Int32.toInt_zero]; omega)]
    · rw [if_neg x1] at hrx
      have hno : rm = (-1, 0, dc, 0, 0, fa, mn, rw, ct, dr, nu, la) := by
        by_cases y1 : x < 0
        · rw [if_pos y1] at hrm; exact hrm
        · rw [if_neg y1, if_neg (fun q => by
            have a0 := i_ne x0
            have a1 := i_ne x1
            have a2 := i_nlt y1
            have a3 := i_le q
            rw [Int32.toInt_zero] at a0 a2
            rw [show (1 : Int32).toInt = 1 from by decide] at a1 a3
            omega)] at hrm
          exact hrm
      subst hrx; subst hno
      exact ⟨rfl, rfl, Or.inl ⟨⟨rfl, rfl, rfl⟩, rfl, rfl⟩⟩
