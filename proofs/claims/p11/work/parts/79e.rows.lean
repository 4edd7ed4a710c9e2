theorem wi_nn {y : Int32} {z : Int64} (h : ¬ fX9_within ((y : Int32).toInt64) z = 0) : 0 ≤ y.toInt := by
  unfold fX9_within at h
  split at h
  · exact absurd rfl h
  · rename_i h1
    rw [lg_cmp_lt, Int64.lt_iff_toInt_lt, Int32.toInt_toInt64, show (0 : Int64).toInt = 0 from by decide] at h1
    omega
theorem pm_A {th dc tl xl fo fa mn ft wl x y1 y2 y3 y4 y5 y6 : Int32} {rw ct : Nat → Int32} (hx : x = 0 ∨ x = 1) (hp : pOk y1 y2 y3 y4 y5 y6) (h1 : (ct x.toNatClampNeg).toInt < 300) : fX9_put th dc tl xl fo fa mn ft wl rw ct x y1 y2 y3 y4 y5 y6 = fX9_put_A th dc tl xl fo fa mn ft wl rw ct x y1 y2 y3 y4 y5 y6 2500 110 (ct x.toNatClampNeg) 0 rw := by
  have hone : ¬ x < 0 ∧ ¬ 1 < x := by rcases hx with q | q <;> subst q <;> decide
  obtain ⟨a, b, c⟩ := hp
  unfold fX9_put
  simp only [bnd]
  rw [if_neg hone.1, if_neg hone.2, if_neg a, if_neg b, if_neg (fun q => by rw [q] at h1; exact absurd h1 (by decide))]
  rcases c with c | ⟨d, e, f, g, i⟩
  · rw [if_pos c]
  · rw [if_neg d, if_neg e, if_neg f, if_neg g, if_pos i]
theorem ins_13 {cn : Int32} {t0 t1 t2 t3 t4 t5 : Nat → Int32} {g0 g1 g2 g3 g4 g5 : Int32} (h1 : cn.toInt < 300) : fX4_insert cn t0 t1 t2 t3 t4 t5 g0 g1 g2 g3 g4 g5 = fX4_insert_13 cn t0 t1 t2 t3 t4 t5 g0 g1 g2 g3 g4 g5 301 cn := by
  unfold fX4_insert fX4_isFull
  simp only [bnd]
  rw [if_pos (Int32.lt_iff_toInt_lt.mpr (by rw [show (300 : Int32).toInt = 300 from by decide]; exact h1)), if_pos rfl]
def RWt (w : Int32 × (Nat → Int32) × (Nat → Int32) × (Nat → Int32) × (Nat → Int32) × (Nat → Int32) × (Nat → Int32)) (f : Nat → Int32) : Prop := RW w.1 w.2.1 w.2.2.1 w.2.2.2.1 w.2.2.2.2.1 w.2.2.2.2.2.1 w.2.2.2.2.2.2 f
theorem ins_RW {th dc tl xl fo fa mn ft wl x y1 y2 y3 y4 y5 y6 cn g2 g3 g4 g5 : Int32} {t0 t1 t2 t3 t4 t5 rw ct : Nat → Int32} {X : Nat} (hx : x = 0 ∨ x = 1) (hX : x.toInt = (X : Int)) (hc : ct x.toNatClampNeg = cn) (h0 : 0 ≤ cn.toInt) (h1 : cn.toInt < 300) (hp : pOk y1 y2 y3 y4 y5 y6) (hR : RW cn t0 t1 t2 t3 t4 t5 (fun j => rw (1800 * X + j)))
    (hg : (y3 < 0 ∧ g2 = -1 ∧ g5 = -1) ∨ (¬ y3 < 0 ∧ g2 = y3 ∧ g3 = y4 ∧ g4 = y5 ∧ g5 = if 0 ≤ y6 then y6 else -1)) : RWt (fX4_insert cn t0 t1 t2 t3 t4 t5 y1 y2 g2 g3 g4 g5) (fun j => (fX9_put th dc tl xl fo fa mn ft wl rw ct x y1 y2 y3 y4 y5 y6).2.2.1 (1800 * X + j)) ∧ ∀ i : Nat, (i < 1800 * X ∨ 1800 * X + 1800 ≤ i) → (fX9_put th dc tl xl fo fa mn ft wl rw ct x y1 y2 y3 y4 y5 y6).2.2.1 i = rw i := by
  have hX1 : X ≤ 1 := by
    rcases hx with q | q
    · rw [q, Int32.toInt_zero] at hX; omega
    · rw [q, k_1] at hX; omega
  obtain ⟨C, hC⟩ : ∃ C : Nat, cn.toInt = (C : Int) := ⟨cn.toInt.toNat, by omega⟩
  rw [pm_A hx hp (by rw [hc]; exact h1), hc, ins_13 h1]
  obtain ⟨p, p1, p2, p3, p4⟩ := ins_rows (cn := cn) (t0 := t0) (t1 := t1) (t2 := t2) (t3 := t3) (t4 := t4) (t5 := t5) (g0 := y1) (g1 := y2) (g2 := g2) (g3 := g3) (g4 := g4) (g5 := g5) hC (by omega) C 301 cn hC (by omega) (by omega)
  obtain ⟨q, q1, q2, q3, q4⟩ := pa_rows (th := th) (dc := dc) (tl := tl) (xl := xl) (fo := fo) (fa := fa) (mn := mn) (ft := ft) (wl := wl) (y1 := y1) (y2 := y2) (y3 := y3) (y4 := y4) (y5 := y5) (y6 := y6) (rw := rw) (ct := ct) hX hX1 C 2500 cn rw hC (by omega) (by omega)
  rw [p4]
  refine ⟨?_, fun i hi => row6_off q4 q1 i (by omega)⟩
  have y2n := wi_nn hp.2.1
  rcases hg with ⟨a, b, d⟩ | ⟨a, b, c3, c4, c5⟩
  · rw [show g2r y3 = g2 from by unfold g2r; rw [if_neg (z_nle (nn_lt a)), b], show g5r y3 y6 = g5 from by unfold g5r; rw [if_pos a, d]] at q4
    exact rw_ins hC (by omega) hR p1 p2 p3 q1 q2 q3 q4 (fun z => absurd z (by rw [b]; decide)) ⟨y2n, fun z => absurd z (by rw [b]; decide)⟩
  · have hy3 := nn_ge a
    have y4n := wi_nn (hp.2.2.resolve_left a).2.2.1
    have y5n := wi_nn (hp.2.2.resolve_left a).2.2.2.1
    rw [show g2r y3 = g2 from by unfold g2r; rw [if_pos (z_le hy3), b], show g3r y3 y4 = g3 from by unfold g3r; rw [if_pos (z_le hy3), c3], show g3r y3 y5 = g4 from by unfold g3r; rw [if_pos (z_le hy3), c4], show g5r y3 y6 = g5 from by unfold g5r; rw [if_neg a, c5]] at q4
    exact rw_ins hC (by omega) hR p1 p2 p3 q1 q2 q3 q4 (fun _ => ⟨rfl, rfl⟩) ⟨y2n, fun _ => ⟨by rw [c3]; exact y4n, by rw [c4]; exact y5n⟩⟩
theorem rw_same {cn : Int32} {t0 t1 t2 t3 t4 t5 f g : Nat → Int32} (h : RW cn t0 t1 t2 t3 t4 t5 f) (hc : cn.toInt ≤ 300) (e : ∀ i : Nat, i < 1800 → g i = f i) : RW cn t0 t1 t2 t3 t4 t5 g := fun j hj => by
  have q := h j hj
  rw [e _ (by omega), e _ (by omega), e _ (by omega), e _ (by omega), e _ (by omega), e _ (by omega)]
  exact q
set_option maxHeartbeats 4000000 in
/-- behind put the rows of both tables are still the same on both sides -/
theorem put_rows {lf : Int32} {g0 g1 g2 g3 g4 g5 : Int32} {cz : Int32} {u0 u1 u2 u3 u4 u5 : Nat → Int32} {co : Int32} {v0 v1 v2 v3 v4 v5 : Nat → Int32} {x y1 y2 y3 y4 y5 y6 th dc tl xl fo fa mn ft wl : Int32} {rw ct : Nat → Int32} (hz : 0 ≤ cz.toInt ∧ cz.toInt ≤ 300) (ho : 0 ≤ co.toInt ∧ co.toInt ≤ 300) (e0 : cz = ct 0) (e1 : co = ct 1) (h0 : RW cz u0 u1 u2 u3 u4 u5 rw) (h1 : RW co v0 v1 v2 v3 v4 v5 (fun j => rw (1800 + j))) : ∀ rx, rx = fX8_put lf g0 g1 g2 g3 g4 g5 cz u0 u1 u2 u3 u4 u5 co v0 v1 v2 v3 v4 v5 x y1 y2 y3 y4 y5 y6 → ∀ rm, rm = fX9_put th dc tl xl fo fa mn ft wl rw ct x y1 y2 y3 y4 y5 y6 → RW rx.2.2.2.2.2.2.2.1 rx.2.2.2.2.2.2.2.2.1 rx.2.2.2.2.2.2.2.2.2.1 rx.2.2.2.2.2.2.2.2.2.2.1 rx.2.2.2.2.2.2.2.2.2.2.2.1 rx.2.2.2.2.2.2.2.2.2.2.2.2.1 rx.2.2.2.2.2.2.2.2.2.2.2.2.2.1 rm.2.2.1 ∧ RW rx.2.2.2.2.2.2.2.2.2.2.2.2.2.2.1 rx.2.2.2.2.2.2.2.2.2.2.2.2.2.2.2.1 rx.2.2.2.2.2.2.2.2.2.2.2.2.2.2.2.2.1 rx.2.2.2.2.2.2.2.2.2.2.2.2.2.2.2.2.2.1 rx.2.2.2.2.2.2.2.2.2.2.2.2.2.2.2.2.2.2.1 rx.2.2.2.2.2.2.2.2.2.2.2.2.2.2.2.2.2.2.2.1 rx.2.2.2.2.2.2.2.2.2.2.2.2.2.2.2.2.2.2.2.2 (fun j => rm.2.2.1 (1800 + j)) := by
  intro rx hrx rm hrm
  have z0 : (0 : Int32).toInt = ((0 : Nat) : Int) := by decide
  have z1 : (1 : Int32).toInt = ((1 : Nat) : Int) := by decide
  unfold fX8_put at hrx
  simp only [bnd] at hrx
  have hst : fX3_standAt g0 g1 g2 g3 g4 g5 y1 y2 = (y1, y2, -1, -1, -1, -1) := rfl
  rw [hst] at hrx
  dsimp only at hrx
  by_cases x0 : x = 0
  · rw [if_pos x0] at hrx
    have ex : ct x.toNatClampNeg = cz := by rw [x0, e0]; rfl
    have hp := pm_out (th := th) (dc := dc) (tl := tl) (xl := xl) (fo := fo) (fa := fa) (mn := mn) (ft := ft) (wl := wl) (y1 := y1) (y2 := y2) (y3 := y3) (y4 := y4) (y5 := y5) (y6 := y6) (rw := rw) (Or.inl x0) (by rw [ex]; exact hz.1) (by rw [ex]; exact hz.2) rm hrm
    rw [ex] at hp
    have h0' : RW cz u0 u1 u2 u3 u4 u5 (fun j => rw (1800 * 0 + j)) := rw_same h0 hz.2 (fun i _ => by show rw (1800 * 0 + i) = rw i; congr 1; omega)
    have yes : ∀ (g2 g3 g4 g5 : Int32), pOk y1 y2 y3 y4 y5 y6 → cz.toInt < 300 → ((y3 < 0 ∧ g2 = -1 ∧ g5 = -1) ∨ (¬ y3 < 0 ∧ g2 = y3 ∧ g3 = y4 ∧ g4 = y5 ∧ g5 = if 0 ≤ y6 then y6 else -1)) → RWt (fX4_insert cz u0 u1 u2 u3 u4 u5 y1 y2 g2 g3 g4 g5) rm.2.2.1 ∧ RW co v0 v1 v2 v3 v4 v5 (fun j => rm.2.2.1 (1800 + j)) := fun g2 g3 g4 g5 a b c => by
      rw [hrm]
      obtain ⟨w1, w2⟩ := ins_RW (th := th) (dc := dc) (tl := tl) (xl := xl) (fo := fo) (fa := fa) (mn := mn) (ft := ft) (wl := wl) (x := x) (X := 0) (Or.inl x0) (by rw [x0]; exact z0) ex hz.1 b a h0' c
      refine ⟨?_, rw_same h1 ho.2 (fun i hi => w2 (1800 + i) (by omega))⟩
      have e9 : (fun j => (fX9_put th dc tl xl fo fa mn ft wl rw ct x y1 y2 y3 y4 y5 y6).2.2.1 (1800 * 0 + j)) = (fX9_put th dc tl xl fo fa mn ft wl rw ct x y1 y2 y3 y4 y5 y6).2.2.1 := funext fun j => by simp only [Nat.mul_zero, Nat.zero_add]
      rw [e9] at w1
      exact w1
    have no : rm.2.2.1 = rw → RW cz u0 u1 u2 u3 u4 u5 rm.2.2.1 ∧ RW co v0 v1 v2 v3 v4 v5 (fun j => rm.2.2.1 (1800 + j)) := fun e => by rw [e]; exact ⟨h0, h1⟩
    by_cases full : fX4_isFull cz = 0
    · rw [if_pos full] at hrx
      have hlt := X4_isFull_0 full
      by_cases d : y3 < 0
      · rw [if_pos d] at hrx
        have hb := inb_n (y1 := y1) (y2 := y2) (y4 := y4) (y5 := y5) (y6 := y6) d
        by_cases i : fX3_isInBounds y1 y2 (-1) (-1) (-1) (-1) = 0
        · rw [if_pos i] at hrx
          rcases hp with ⟨q1, _⟩ | ⟨_, q2, q3, q4⟩
          · exact absurd i (hb.mpr q1.1)
          · subst hrx; exact no q4
        · rw [if_neg i] at hrx
          have hy := yes (-1) (-1) (-1) (-1) (hb.mp i) hlt (Or.inl ⟨d, rfl, rfl⟩)
          generalize fX4_insert cz u0 u1 u2 u3 u4 u5 y1 y2 (-1) (-1) (-1) (-1) = w at hrx hy
          subst hrx; exact hy
      · rw [if_neg d] at hrx
        have hb := inb_t (y1 := y1) (y2 := y2) (y4 := y4) (y5 := y5) (y6 := y6) d _ rfl
        have hf : ∀ f, f = fX3_tell y1 y2 (-1) (-1) (-1) (-1) y3 y4 y5 y6 → f.1 = y3 ∧ f.2.1 = y4 ∧ f.2.2.1 = y5 ∧ f.2.2.2 = if 0 ≤ y6 then y6 else -1 := fun f hf => by
          unfold fX3_tell at hf
          by_cases c : 0 ≤ y6
          · rw [if_pos c] at hf ⊢; subst hf; exact ⟨rfl, rfl, rfl, rfl⟩
          · rw [if_neg c] at hf ⊢; subst hf; exact ⟨rfl, rfl, rfl, rfl⟩
        have hf := hf _ rfl
        generalize fX3_tell y1 y2 (-1) (-1) (-1) (-1) y3 y4 y5 y6 = f at hrx hb hf
        by_cases i : fX3_isInBounds y1 y2 f.1 f.2.1 f.2.2.1 f.2.2.2 = 0
        · rw [if_pos i] at hrx
          rcases hp with ⟨q1, _⟩ | ⟨_, q2, q3, q4⟩
          · exact absurd i (hb.mpr q1.1)
          · subst hrx; exact no q4
        · rw [if_neg i] at hrx
          have hy := yes f.1 f.2.1 f.2.2.1 f.2.2.2 (hb.mp i) hlt (Or.inr ⟨d, hf⟩)
          generalize fX4_insert cz u0 u1 u2 u3 u4 u5 y1 y2 f.1 f.2.1 f.2.2.1 f.2.2.2 = w at hrx hy
          subst hrx; exact hy
    · rw [if_neg full] at hrx
      have hge := X4_isFull_1 full
      rcases hp with ⟨q1, _⟩ | ⟨_, q2, q3, q4⟩
      · exact absurd q1.2 (by omega)
      · subst hrx; exact no q4
  · rw [if_neg x0] at hrx
    by_cases x1 : x = 1
    · rw [if_pos x1] at hrx
      have ex : ct x.toNatClampNeg = co := by rw [x1, e1]; rfl
      have hp := pm_out (th := th) (dc := dc) (tl := tl) (xl := xl) (fo := fo) (fa := fa) (mn := mn) (ft := ft) (wl := wl) (y1 := y1) (y2 := y2) (y3 := y3) (y4 := y4) (y5 := y5) (y6 := y6) (rw := rw) (Or.inr x1) (by rw [ex]; exact ho.1) (by rw [ex]; exact ho.2) rm hrm
      rw [ex] at hp
      have yes : ∀ (g2 g3 g4 g5 : Int32), pOk y1 y2 y3 y4 y5 y6 → co.toInt < 300 → ((y3 < 0 ∧ g2 = -1 ∧ g5 = -1) ∨ (¬ y3 < 0 ∧ g2 = y3 ∧ g3 = y4 ∧ g4 = y5 ∧ g5 = if 0 ≤ y6 then y6 else -1)) → RW cz u0 u1 u2 u3 u4 u5 rm.2.2.1 ∧ RWt (fX4_insert co v0 v1 v2 v3 v4 v5 y1 y2 g2 g3 g4 g5) (fun j => rm.2.2.1 (1800 + j)) := fun g2 g3 g4 g5 a b c => by
        rw [hrm]
        obtain ⟨w1, w2⟩ := ins_RW (th := th) (dc := dc) (tl := tl) (xl := xl) (fo := fo) (fa := fa) (mn := mn) (ft := ft) (wl := wl) (x := x) (X := 1) (Or.inr x1) (by rw [x1]; exact z1) ex ho.1 b a h1 c
        exact ⟨rw_same h0 hz.2 (fun i hi => w2 _ (by omega)), w1⟩
      have no : rm.2.2.1 = rw → RW cz u0 u1 u2 u3 u4 u5 rm.2.2.1 ∧ RW co v0 v1 v2 v3 v4 v5 (fun j => rm.2.2.1 (1800 + j)) := fun e => by rw [e]; exact ⟨h0, h1⟩
      by_cases full : fX4_isFull co = 0
      · rw [if_pos full] at hrx
        have hlt := X4_isFull_0 full
        by_cases d : y3 < 0
        · rw [if_pos d] at hrx
          have hb := inb_n (y1 := y1) (y2 := y2) (y4 := y4) (y5 := y5) (y6 := y6) d
          by_cases i : fX3_isInBounds y1 y2 (-1) (-1) (-1) (-1) = 0
          · rw [if_pos i] at hrx
            rcases hp with ⟨q1, _⟩ | ⟨_, q2, q3, q4⟩
            · exact absurd i (hb.mpr q1.1)
            · subst hrx; exact no q4
          · rw [if_neg i] at hrx
            have hy := yes (-1) (-1) (-1) (-1) (hb.mp i) hlt (Or.inl ⟨d, rfl, rfl⟩)
            generalize fX4_insert co v0 v1 v2 v3 v4 v5 y1 y2 (-1) (-1) (-1) (-1) = w at hrx hy
            subst hrx; exact hy
        · rw [if_neg d] at hrx
          have hb := inb_t (y1 := y1) (y2 := y2) (y4 := y4) (y5 := y5) (y6 := y6) d _ rfl
          have hf : ∀ f, f = fX3_tell y1 y2 (-1) (-1) (-1) (-1) y3 y4 y5 y6 → f.1 = y3 ∧ f.2.1 = y4 ∧ f.2.2.1 = y5 ∧ f.2.2.2 = if 0 ≤ y6 then y6 else -1 := fun f hf => by
            unfold fX3_tell at hf
            by_cases c : 0 ≤ y6
            · rw [if_pos c] at hf ⊢; subst hf; exact ⟨rfl, rfl, rfl, rfl⟩
            · rw [if_neg c] at hf ⊢; subst hf; exact ⟨rfl, rfl, rfl, rfl⟩
          have hf := hf _ rfl
          generalize fX3_tell y1 y2 (-1) (-1) (-1) (-1) y3 y4 y5 y6 = f at hrx hb hf
          by_cases i : fX3_isInBounds y1 y2 f.1 f.2.1 f.2.2.1 f.2.2.2 = 0
          · rw [if_pos i] at hrx
            rcases hp with ⟨q1, _⟩ | ⟨_, q2, q3, q4⟩
            · exact absurd i (hb.mpr q1.1)
            · subst hrx; exact no q4
          · rw [if_neg i] at hrx
            have hy := yes f.1 f.2.1 f.2.2.1 f.2.2.2 (hb.mp i) hlt (Or.inr ⟨d, hf⟩)
            generalize fX4_insert co v0 v1 v2 v3 v4 v5 y1 y2 f.1 f.2.1 f.2.2.1 f.2.2.2 = w at hrx hy
            subst hrx; exact hy
      · rw [if_neg full] at hrx
        have hge := X4_isFull_1 full
        rcases hp with ⟨q1, _⟩ | ⟨_, q2, q3, q4⟩
        · exact absurd q1.2 (by omega)
        · subst hrx; exact no q4
    · rw [if_neg x1] at hrx
      have hno : rm = (-1, 0, rw, ct) := by
        unfold fX9_put at hrm
        by_cases y1 : x < 0
        · rw [if_pos y1] at hrm; exact hrm
        · rw [if_neg y1, if_pos (Int32.lt_iff_toInt_lt.mpr (by
            have a0 := i_ne x0
            have a1 := i_ne x1
            have a2 := i_nlt y1
            rw [Int32.toInt_zero] at a0 a2
            rw [show (1 : Int32).toInt = 1 from by decide] at a1 ⊢
            omega))] at hrm
          exact hrm
      subst hrx; subst hno
      exact ⟨h0, h1⟩
