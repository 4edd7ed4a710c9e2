/-- behind read: the tape is empty, the lines are in bounds, the tables' addresses are as they were or two of them are changed about -/
theorem rd_class {h0 d0 d1 d2 d3 d4 d5 d6 b0 r0 r1 r2 r3 r4 q0 q1 q2 q3 q4 q5 z0 z1 z2 z3 z4 z5 o0 o1 o2 o3 o4 o5 : Nat} {lf : Int32} {bt : Nat → Int32} {ln : Int32} {nc ss ib li ff fp : Int32} {n0 n1 : Int32} {n2 : Int64} {n3 n4 : Int32} {nb : Nat → Int64} {a0 a1 a2 a3 a4 : Int32} {g0 g1 g2 g3 g4 g5 : Int32} {cn : Int32} {t0 t1 t2 t3 t4 t5 : Nat → Int32} {cz : Int32} {u0 u1 u2 u3 u4 u5 : Nat → Int32} {co : Int32} {v0 v1 v2 v3 v4 v5 : Nat → Int32} {x : Int32} (h : LnOk t0) : ∀ r, r = fX8_read h0 d0 d1 d2 d3 d4 d5 d6 b0 r0 r1 r2 r3 r4 q0 q1 q2 q3 q4 q5 z0 z1 z2 z3 z4 z5 o0 o1 o2 o3 o4 o5 lf bt ln nc ss ib li ff fp n0 n1 n2 n3 n4 nb a0 a1 a2 a3 a4 g0 g1 g2 g3 g4 g5 cn t0 t1 t2 t3 t4 t5 cz u0 u1 u2 u3 u4 u5 co v0 v1 v2 v3 v4 v5 x → r.2.2.2.2.1 = 0 ∧ LnOk r.2.2.2.2.2.2.2.2.2.2.2.2.2.2.2.2.2.2.2.2.2.2.2.2.2.2.2.2.2.2.1 ∧ ((r.2.1 = d4 ∧ r.2.2.1 = d5 ∧ r.2.2.2.2.2.1 = r4) ∨ (r.2.1 = r4 ∧ r.2.2.1 = d5 ∧ r.2.2.2.2.2.1 = d4) ∨ (r.2.1 = d4 ∧ r.2.2.1 = r4 ∧ r.2.2.2.2.2.1 = d5)) := by
  intro r hr
  unfold fX8_read at hr
  simp only [bnd] at hr
  have hq := ln_readTape (nc := nc) (ss := ss) (ib := ib) (li := li) (ff := ff) (fp := fp) (n0 := n0) (n1 := n1) (n2 := n2) (n3 := n3) (n4 := n4) (nb := nb) (a0 := a0) (a1 := a1) (a2 := a2) (a3 := a3) (a4 := a4) (g0 := g0) (g1 := g1) (g2 := g2) (g3 := g3) (g4 := g4) (g5 := g5) (cn := cn) (t1 := t1) (t2 := t2) (t3 := t3) (t4 := t4) (t5 := t5) (bt := bt) (ln := ln) h
  generalize fX2_readTape nc ss ib li ff fp n0 n1 n2 n3 n4 nb a0 a1 a2 a3 a4 g0 g1 g2 g3 g4 g5 cn t0 t1 t2 t3 t4 t5 bt ln = w at hr hq
  repeat' split at hr
  all_goals subst hr
  all_goals first | exact ⟨rfl, hq, Or.inl ⟨rfl, rfl, rfl⟩⟩ | exact ⟨rfl, hq, Or.inr (Or.inl ⟨rfl, rfl, rfl⟩)⟩ | exact ⟨rfl, hq, Or.inr (Or.inr ⟨rfl, rfl, rfl⟩)⟩ | exact ⟨rfl, h, Or.inl ⟨rfl, rfl, rfl⟩⟩
theorem wr_class {h0 d0 d1 d2 d3 d4 d5 d6 w0 w1 w2 b0 b1 z0 z1 z2 z3 z4 z5 o0 o1 o2 o3 o4 o5 : Nat} {lf wl : Int32} {a0 a1 a2 a3 a4 : Int32} {g0 g1 g2 g3 g4 g5 : Int32} {ch : Nat → Int32} {ln ov : Int32} {ch1 : Nat → Int32} {ln1 ov1 : Int32} {cz : Int32} {u0 u1 u2 u3 u4 u5 : Nat → Int32} {co : Int32} {v0 v1 v2 v3 v4 v5 : Nat → Int32} {x : Int32} : ∀ r, r = fX8_write h0 d0 d1 d2 d3 d4 d5 d6 w0 w1 w2 b0 b1 z0 z1 z2 z3 z4 z5 o0 o1 o2 o3 o4 o5 lf wl a0 a1 a2 a3 a4 g0 g1 g2 g3 g4 g5 ch ln ov ch1 ln1 ov1 cz u0 u1 u2 u3 u4 u5 co v0 v1 v2 v3 v4 v5 x → (r.2.1 = d6 ∧ r.2.2.1 = w2) ∨ (r.2.1 = w2 ∧ r.2.2.1 = d6) := by
  intro r hr
  unfold fX8_write at hr
  simp only [bnd] at hr
  repeat' split at hr
  all_goals subst hr
  all_goals first | exact Or.inl ⟨rfl, rfl⟩ | exact Or.inr ⟨rfl, rfl⟩
theorem wi_l9 {x : Int32} (h : ¬ fX8_isWithin ((x : Int32).toInt64) 199 = 0) : L9 x := by
  unfold fX8_isWithin at h
  split at h
  · exact absurd rfl h
  · rename_i h1
    split at h
    · exact absurd rfl h
    · rename_i h2
      rw [lg_cmp_lt] at h1
      rw [lg_cmp_gt] at h2
      rw [Int64.lt_iff_toInt_lt, Int32.toInt_toInt64] at h1
      rw [Int64.lt_iff_toInt_lt, Int32.toInt_toInt64, Int32.toInt_toInt64, show (199 : Int32).toInt = 199 from by decide] at h2
      rw [show (0 : Int64).toInt = 0 from by decide] at h1
      exact ⟨by omega, by omega⟩
theorem ib_l9 {g0 g1 g2 g3 g4 g5 : Int32} (h : ¬ fX3_isInBounds g0 g1 g2 g3 g4 g5 = 0) : L9 g0 := by
  unfold fX3_isInBounds at h
  simp only [bnd] at h
  split at h
  · exact absurd rfl h
  · exact wi_l9 (by assumption)
theorem ln_put {lf : Int32} {g0 g1 g2 g3 g4 g5 : Int32} {cz : Int32} {u0 u1 u2 u3 u4 u5 : Nat → Int32} {co : Int32} {v0 v1 v2 v3 v4 v5 : Nat → Int32} {x y1 y2 y3 y4 y5 y6 : Int32} (hu : LnOk u0) (hv : LnOk v0) : ∀ r, r = fX8_put lf g0 g1 g2 g3 g4 g5 cz u0 u1 u2 u3 u4 u5 co v0 v1 v2 v3 v4 v5 x y1 y2 y3 y4 y5 y6 → LnOk r.2.2.2.2.2.2.2.2.1 ∧ LnOk r.2.2.2.2.2.2.2.2.2.2.2.2.2.2.2.1 := by
  intro r hr
  unfold fX8_put at hr
  simp only [bnd] at hr
  generalize fX3_standAt g0 g1 g2 g3 g4 g5 y1 y2 = w0 at hr
  split at hr
  · split at hr
    · split at hr
      · by_cases hb : fX3_isInBounds w0.1 w0.2.1 w0.2.2.1 w0.2.2.2.1 w0.2.2.2.2.1 w0.2.2.2.2.2 = 0
        · rw [if_pos hb] at hr; subst hr; exact ⟨hu, hv⟩
        · rw [if_neg hb] at hr
          have hi := ln_ins (cn := cz) (t1 := u1) (t2 := u2) (t3 := u3) (t4 := u4) (t5 := u5) (g0 := w0.1) (g1 := w0.2.1) (g2 := w0.2.2.1) (g3 := w0.2.2.2.1) (g4 := w0.2.2.2.2.1) (g5 := w0.2.2.2.2.2) hu (ib_l9 hb)
          generalize fX4_insert cz u0 u1 u2 u3 u4 u5 w0.1 w0.2.1 w0.2.2.1 w0.2.2.2.1 w0.2.2.2.2.1 w0.2.2.2.2.2 = w at hr hi
          subst hr; exact ⟨hi, hv⟩
      · generalize fX3_tell w0.1 w0.2.1 w0.2.2.1 w0.2.2.2.1 w0.2.2.2.2.1 w0.2.2.2.2.2 y3 y4 y5 y6 = f at hr
        by_cases hb : fX3_isInBounds w0.1 w0.2.1 f.1 f.2.1 f.2.2.1 f.2.2.2 = 0
        · rw [if_pos hb] at hr; subst hr; exact ⟨hu, hv⟩
        · rw [if_neg hb] at hr
          have hi := ln_ins (cn := cz) (t1 := u1) (t2 := u2) (t3 := u3) (t4 := u4) (t5 := u5) (g0 := w0.1) (g1 := w0.2.1) (g2 := f.1) (g3 := f.2.1) (g4 := f.2.2.1) (g5 := f.2.2.2) hu (ib_l9 hb)
          generalize fX4_insert cz u0 u1 u2 u3 u4 u5 w0.1 w0.2.1 f.1 f.2.1 f.2.2.1 f.2.2.2 = w at hr hi
          subst hr; exact ⟨hi, hv⟩
    · subst hr; exact ⟨hu, hv⟩
  · split at hr
    · split at hr
      · split at hr
        · by_cases hb : fX3_isInBounds w0.1 w0.2.1 w0.2.2.1 w0.2.2.2.1 w0.2.2.2.2.1 w0.2.2.2.2.2 = 0
          · rw [if_pos hb] at hr; subst hr; exact ⟨hu, hv⟩
          · rw [if_neg hb] at hr
            have hi := ln_ins (cn := co) (t1 := v1) (t2 := v2) (t3 := v3) (t4 := v4) (t5 := v5) (g0 := w0.1) (g1 := w0.2.1) (g2 := w0.2.2.1) (g3 := w0.2.2.2.1) (g4 := w0.2.2.2.2.1) (g5 := w0.2.2.2.2.2) hv (ib_l9 hb)
            generalize fX4_insert co v0 v1 v2 v3 v4 v5 w0.1 w0.2.1 w0.2.2.1 w0.2.2.2.1 w0.2.2.2.2.1 w0.2.2.2.2.2 = w at hr hi
            subst hr; exact ⟨hu, hi⟩
        · generalize fX3_tell w0.1 w0.2.1 w0.2.2.1 w0.2.2.2.1 w0.2.2.2.2.1 w0.2.2.2.2.2 y3 y4 y5 y6 = f at hr
          by_cases hb : fX3_isInBounds w0.1 w0.2.1 f.1 f.2.1 f.2.2.1 f.2.2.2 = 0
          · rw [if_pos hb] at hr; subst hr; exact ⟨hu, hv⟩
          · rw [if_neg hb] at hr
            have hi := ln_ins (cn := co) (t1 := v1) (t2 := v2) (t3 := v3) (t4 := v4) (t5 := v5) (g0 := w0.1) (g1 := w0.2.1) (g2 := f.1) (g3 := f.2.1) (g4 := f.2.2.1) (g5 := f.2.2.2) hv (ib_l9 hb)
            generalize fX4_insert co v0 v1 v2 v3 v4 v5 w0.1 w0.2.1 f.1 f.2.1 f.2.2.1 f.2.2.2 = w at hr hi
            subst hr; exact ⟨hu, hi⟩
      · subst hr; exact ⟨hu, hv⟩
    · subst hr; exact ⟨hu, hv⟩
theorem app4 {bt : Nat → Int32} {ln x : Int32} (h0 : 0 ≤ ln.toInt) (h1 : ln.toInt + 4 ≤ 3000) : (fX5_appendFour bt ln x).1.toInt = ln.toInt + 4 := by
  have k1 : (1 : Int32).toInt = 1 := by decide
  have k3 : (3000 : Int32).toInt = 3000 := by decide
  have e1 : (ln + 1).toInt = ln.toInt + 1 := by rw [ti_add (by omega) (by omega), k1]
  have e2 : (ln + 1 + 1).toInt = ln.toInt + 2 := by rw [ti_add (by omega) (by omega), k1]; omega
  have e3 : (ln + 1 + 1 + 1).toInt = ln.toInt + 3 := by rw [ti_add (by omega) (by omega), k1]; omega
  have e4 : (ln + 1 + 1 + 1 + 1).toInt = ln.toInt + 4 := by rw [ti_add (by omega) (by omega), k1]; omega
  have c0 : ¬ (3000 : Int32) ≤ ln := fun q => by have := i_le q; omega
  have c1 : ¬ (3000 : Int32) ≤ ln + 1 := fun q => by have := i_le q; omega
  have c2 : ¬ (3000 : Int32) ≤ ln + 1 + 1 := fun q => by have := i_le q; omega
  have c3 : ¬ (3000 : Int32) ≤ ln + 1 + 1 + 1 := fun q => by have := i_le q; omega
  unfold fX5_appendFour
  rw [show (40 : Nat) = 35 + 1 + 1 + 1 + 1 + 1 from rfl]
  rw [fX5_appendFour_3, if_neg (by decide), if_neg c0, fX5_appendFour_3, if_neg (by decide), if_neg c1, fX5_appendFour_3, if_neg (by decide), if_neg c2, fX5_appendFour_3, if_neg (by decide), if_neg c3, fX5_appendFour_3, if_pos (by decide)]
  exact e4
/-- feed of the class: whether there is room, and how long the tape is then -/
theorem fd_class {lf : Int32} {bt : Nat → Int32} {ln wa wb wc wd we : Int32} (h0 : 0 ≤ ln.toInt) (h1 : ln.toInt ≤ 3000) : ∀ r, r = fX8_feed lf bt ln wa wb wc wd we → (ln.toInt + 20 ≤ 3000 ∧ r.1 = 1 ∧ r.2.1.toInt = ln.toInt + 20) ∨ (3000 < ln.toInt + 20 ∧ r.1 = 0 ∧ r.2.1 = ln) := by
  intro r hr
  have k2 : (20 : Int32).toInt = 20 := by decide
  have k3 : (3000 : Int32).toInt = 3000 := by decide
  have e : (ln + 20).toInt = ln.toInt + 20 := by rw [ti_add (by omega) (by omega), k2]
  unfold fX8_feed fX5_hasRoomForFive at hr
  simp only [bnd] at hr
  by_cases c : (3000 : Int32) < ln + 20
  · have q := i_lt c
    rw [if_pos c, if_pos rfl] at hr
    subst hr
    exact Or.inr ⟨by omega, rfl, rfl⟩
  · have q := i_nlt c
    rw [if_neg c, if_neg (by decide)] at hr
    have a1 := app4 (bt := bt) (ln := ln) (x := wa) h0 (by omega)
    generalize fX5_appendFour bt ln wa = r1 at a1 hr
    have a2 := app4 (bt := r1.2) (ln := r1.1) (x := wb) (by omega) (by omega)
    generalize fX5_appendFour r1.2 r1.1 wb = r2 at a2 hr
    have a3 := app4 (bt := r2.2) (ln := r2.1) (x := wc) (by omega) (by omega)
    generalize fX5_appendFour r2.2 r2.1 wc = r3 at a3 hr
    have a4 := app4 (bt := r3.2) (ln := r3.1) (x := wd) (by omega) (by omega)
    generalize fX5_appendFour r3.2 r3.1 wd = r4 at a4 hr
    have a5 := app4 (bt := r4.2) (ln := r4.1) (x := we) (by omega) (by omega)
    generalize fX5_appendFour r4.2 r4.1 we = r5 at a5 hr
    subst hr
    exact Or.inl ⟨by omega, rfl, by show r5.1.toInt = _; omega⟩
