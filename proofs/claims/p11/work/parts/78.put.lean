set_option maxHeartbeats 4000000 in
theorem put_both {lf : Int32} {g0 g1 g2 g3 g4 g5 : Int32} {cz : Int32} {u0 u1 u2 u3 u4 u5 : Nat → Int32} {co : Int32} {v0 v1 v2 v3 v4 v5 : Nat → Int32} {x y1 y2 y3 y4 y5 y6 th dc tl xl fo fa mn ft wl : Int32} {rw ct : Nat → Int32} (hz : 0 ≤ cz.toInt ∧ cz.toInt ≤ 300) (ho : 0 ≤ co.toInt ∧ co.toInt ≤ 300) (e0 : cz = ct 0) (e1 : co = ct 1) : ∀ rx, rx = fX8_put lf g0 g1 g2 g3 g4 g5 cz u0 u1 u2 u3 u4 u5 co v0 v1 v2 v3 v4 v5 x y1 y2 y3 y4 y5 y6 → ∀ rm, rm = fX9_put th dc tl xl fo fa mn ft wl rw ct x y1 y2 y3 y4 y5 y6 → rx.1 = rm.1 ∧ rx.2.2.2.2.2.2.2.1 = rm.2.2.2 0 ∧ rx.2.2.2.2.2.2.2.2.2.2.2.2.2.2.1 = rm.2.2.2 1 := by
  intro rx hrx rm hrm
  unfold fX8_put at hrx
  simp only [bnd] at hrx
  have hst : fX3_standAt g0 g1 g2 g3 g4 g5 y1 y2 = (y1, y2, -1, -1, -1, -1) := rfl
  rw [hst] at hrx
  dsimp only at hrx
  by_cases x0 : x = 0
  · rw [if_pos x0] at hrx
    have ex : ct x.toNatClampNeg = cz := by rw [x0, e0]; rfl
    have hp := pm_out (th := th) (dc := dc) (tl := tl) (xl := xl) (fo := fo) (fa := fa) (mn := mn) (ft := ft) (wl := wl) (y1 := y1) (y2 := y2) (y3 := y3) (y4 := y4) (y5 := y5) (y6 := y6) (rw := rw) (Or.inl x0) (by rw [ex]; exact hz.1) (by rw [ex]; exact hz.2) rm hrm
    rw [ex] at hp
    have hup : ∀ v : Int32, upd ct x.toNatClampNeg v 0 = v ∧ upd ct x.toNatClampNeg v 1 = ct 1 := fun v => by rw [x0]; exact ⟨rfl, rfl⟩
    by_cases full : fX4_isFull cz = 0
    · rw [if_pos full] at hrx
      have hlt := X4_isFull_0 full
      by_cases d : y3 < 0
      · rw [if_pos d] at hrx
        have hb := inb_n (y1 := y1) (y2 := y2) (y4 := y4) (y5 := y5) (y6 := y6) d
        by_cases i : fX3_isInBounds y1 y2 (-1) (-1) (-1) (-1) = 0
        · rw [if_pos i] at hrx
          rcases hp with ⟨p1, _⟩ | ⟨_, p2, p3, _⟩
          · exact absurd i (hb.mpr p1.1)
          · subst hrx; exact ⟨p2.symm, by rw [p3]; exact e0, by rw [p3]; exact e1⟩
        · rw [if_neg i] at hrx
          have hc := ins_cnt (cn := cz) (t0 := u0) (t1 := u1) (t2 := u2) (t3 := u3) (t4 := u4) (t5 := u5) (g0 := y1) (g1 := y2) (g2 := -1) (g3 := -1) (g4 := -1) (g5 := -1) hz.1 hlt
          generalize fX4_insert cz u0 u1 u2 u3 u4 u5 y1 y2 (-1) (-1) (-1) (-1) = w at hrx hc
          rcases hp with ⟨_, p2, p3⟩ | ⟨p1, _⟩
          · subst hrx; exact ⟨hc.trans p2.symm, by rw [p3, (hup _).1]; exact hc, by rw [p3, (hup _).2]; exact e1⟩
          · exact absurd ⟨hb.mp i, hlt⟩ p1
      · rw [if_neg d] at hrx
        have hb := inb_t (y1 := y1) (y2 := y2) (y4 := y4) (y5 := y5) (y6 := y6) d _ rfl
        generalize fX3_tell y1 y2 (-1) (-1) (-1) (-1) y3 y4 y5 y6 = f at hrx hb
        by_cases i : fX3_isInBounds y1 y2 f.1 f.2.1 f.2.2.1 f.2.2.2 = 0
        · rw [if_pos i] at hrx
          rcases hp with ⟨p1, _⟩ | ⟨_, p2, p3, _⟩
          · exact absurd i (hb.mpr p1.1)
          · subst hrx; exact ⟨p2.symm, by rw [p3]; exact e0, by rw [p3]; exact e1⟩
        · rw [if_neg i] at hrx
          have hc := ins_cnt (cn := cz) (t0 := u0) (t1 := u1) (t2 := u2) (t3 := u3) (t4 := u4) (t5 := u5) (g0 := y1) (g1 := y2) (g2 := f.1) (g3 := f.2.1) (g4 := f.2.2.1) (g5 := f.2.2.2) hz.1 hlt
          generalize fX4_insert cz u0 u1 u2 u3 u4 u5 y1 y2 f.1 f.2.1 f.2.2.1 f.2.2.2 = w at hrx hc
          rcases hp with ⟨_, p2, p3⟩ | ⟨p1, _⟩
          · subst hrx; exact ⟨hc.trans p2.symm, by rw [p3, (hup _).1]; exact hc, by rw [p3, (hup _).2]; exact e1⟩
          · exact absurd ⟨hb.mp i, hlt⟩ p1
    · rw [if_neg full] at hrx
      have hge := X4_isFull_1 full
      rcases hp with ⟨p1, _⟩ | ⟨_, p2, p3, _⟩
      · exact absurd p1.2 (by omega)
      · subst hrx; exact ⟨p2.symm, by rw [p3]; exact e0, by rw [p3]; exact e1⟩
  · rw [if_neg x0] at hrx
    by_cases x1 : x = 1
    · rw [if_pos x1] at hrx
      have ex : ct x.toNatClampNeg = co := by rw [x1, e1]; rfl
      have hp := pm_out (th := th) (dc := dc) (tl := tl) (xl := xl) (fo := fo) (fa := fa) (mn := mn) (ft := ft) (wl := wl) (y1 := y1) (y2 := y2) (y3 := y3) (y4 := y4) (y5 := y5) (y6 := y6) (rw := rw) (Or.inr x1) (by rw [ex]; exact ho.1) (by rw [ex]; exact ho.2) rm hrm
      rw [ex] at hp
      have hup : ∀ v : Int32, upd ct x.toNatClampNeg v 0 = ct 0 ∧ upd ct x.toNatClampNeg v 1 = v := fun v => by rw [x1]; exact ⟨rfl, rfl⟩
      by_cases full : fX4_isFull co = 0
      · rw [if_pos full] at hrx
        have hlt := X4_isFull_0 full
        by_cases d : y3 < 0
        · rw [if_pos d] at hrx
          have hb := inb_n (y1 := y1) (y2 := y2) (y4 := y4) (y5 := y5) (y6 := y6) d
          by_cases i : fX3_isInBounds y1 y2 (-1) (-1) (-1) (-1) = 0
          · rw [if_pos i] at hrx
            rcases hp with ⟨p1, _⟩ | ⟨_, p2, p3, _⟩
            · exact absurd i (hb.mpr p1.1)
            · subst hrx; exact ⟨p2.symm, by rw [p3]; exact e0, by rw [p3]; exact e1⟩
          · rw [if_neg i] at hrx
            have hc := ins_cnt (cn := co) (t0 := v0) (t1 := v1) (t2 := v2) (t3 := v3) (t4 := v4) (t5 := v5) (g0 := y1) (g1 := y2) (g2 := -1) (g3 := -1) (g4 := -1) (g5 := -1) ho.1 hlt
            generalize fX4_insert co v0 v1 v2 v3 v4 v5 y1 y2 (-1) (-1) (-1) (-1) = w at hrx hc
            rcases hp with ⟨_, p2, p3⟩ | ⟨p1, _⟩
            · subst hrx; exact ⟨hc.trans p2.symm, by rw [p3, (hup _).1]; exact e0, by rw [p3, (hup _).2]; exact hc⟩
            · exact absurd ⟨hb.mp i, hlt⟩ p1
        · rw [if_neg d] at hrx
          have hb := inb_t (y1 := y1) (y2 := y2) (y4 := y4) (y5 := y5) (y6 := y6) d _ rfl
          generalize fX3_tell y1 y2 (-1) (-1) (-1) (-1) y3 y4 y5 y6 = f at hrx hb
          by_cases i : fX3_isInBounds y1 y2 f.1 f.2.1 f.2.2.1 f.2.2.2 = 0
          · rw [if_pos i] at hrx
            rcases hp with ⟨p1, _⟩ | ⟨_, p2, p3, _⟩
            · exact absurd i (hb.mpr p1.1)
            · subst hrx; exact ⟨p2.symm, by rw [p3]; exact e0, by rw [p3]; exact e1⟩
          · rw [if_neg i] at hrx
            have hc := ins_cnt (cn := co) (t0 := v0) (t1 := v1) (t2 := v2) (t3 := v3) (t4 := v4) (t5 := v5) (g0 := y1) (g1 := y2) (g2 := f.1) (g3 := f.2.1) (g4 := f.2.2.1) (g5 := f.2.2.2) ho.1 hlt
            generalize fX4_insert co v0 v1 v2 v3 v4 v5 y1 y2 f.1 f.2.1 f.2.2.1 f.2.2.2 = w at hrx hc
            rcases hp with ⟨_, p2, p3⟩ | ⟨p1, _⟩
            · subst hrx; exact ⟨hc.trans p2.symm, by rw [p3, (hup _).1]; exact e0, by rw [p3, (hup _).2]; exact hc⟩
            · exact absurd ⟨hb.mp i, hlt⟩ p1
      · rw [if_neg full] at hrx
        have hge := X4_isFull_1 full
        rcases hp with ⟨p1, _⟩ | ⟨_, p2, p3, _⟩
        · exact absurd p1.2 (by omega)
        · subst hrx; exact ⟨p2.symm, by rw [p3]; exact e0, by rw [p3]; exact e1⟩
    · rw [if_neg x1] at hrx
      have hno : rm = (-1, 0, rw, ct) := by
        unfold fX9_put at hrm
        by_cases y1 : x < 0
        · rw [if_pos y1] at hrm; exact hrm
        · rw [if_neg y1, if_pos (Int32.lt_iff_toInt_lt.mpr (by
            have a0 := i_ne x0
            have a1 := i_ne x1
            have a2 := i_nlt y1
            rw [Int32.toInt_zero] at a0 a2
            rw [show (1 : Int32).toInt = 1 from by decide] at a1 ⊢
            omega))] at hrm
          exact hrm
      subst hrx; subst hno
      exact ⟨rfl, e0, e1⟩
