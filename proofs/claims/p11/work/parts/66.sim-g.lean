abbrev UO : Type := Int32 × Int32 × Int32 × Int32 × Int32 × Int32 × Int32
def s_tail (S : RS) (u : UO) : AO := if u.1 = 0 then (4, s_ss S, s_a0 S, s_a1 S, s_a2 S, s_a3 S, s_a4 S, u.2.1, u.2.2.1, u.2.2.2.1, u.2.2.2.2.1, u.2.2.2.2.2.1, u.2.2.2.2.2.2, s_cn S, s_t0 S, s_t1 S, s_t2 S, s_t3 S, s_t4 S, s_t5 S) else if fX4_isFull (s_cn S) = 0 then (s_ff S, s_fp S, (fX0_pass (s_a0 S) (s_a1 S) (s_a2 S) (s_a3 S) (s_a4 S) u.2.1 u.2.2.1 u.2.2.2.1 u.2.2.2.2.1 u.2.2.2.2.2.1 u.2.2.2.2.2.2).1, (fX0_pass (s_a0 S) (s_a1 S) (s_a2 S) (s_a3 S) (s_a4 S) u.2.1 u.2.2.1 u.2.2.2.1 u.2.2.2.2.1 u.2.2.2.2.2.1 u.2.2.2.2.2.2).2.1, (fX0_pass (s_a0 S) (s_a1 S) (s_a2 S) (s_a3 S) (s_a4 S) u.2.1 u.2.2.1 u.2.2.2.1 u.2.2.2.2.1 u.2.2.2.2.2.1 u.2.2.2.2.2.2).2.2.1, (fX0_pass (s_a0 S) (s_a1 S) (s_a2 S) (s_a3 S) (s_a4 S) u.2.1 u.2.2.1 u.2.2.2.1 u.2.2.2.2.1 u.2.2.2.2.2.1 u.2.2.2.2.2.2).2.2.2.1, (fX0_pass (s_a0 S) (s_a1 S) (s_a2 S) (s_a3 S) (s_a4 S) u.2.1 u.2.2.1 u.2.2.2.1 u.2.2.2.2.1 u.2.2.2.2.2.1 u.2.2.2.2.2.2).2.2.2.2, u.2.1, u.2.2.1, u.2.2.2.1, u.2.2.2.2.1, u.2.2.2.2.2.1, u.2.2.2.2.2.2, (fX4_insert (s_cn S) (s_t0 S) (s_t1 S) (s_t2 S) (s_t3 S) (s_t4 S) (s_t5 S) u.2.1 u.2.2.1 u.2.2.2.1 u.2.2.2.2.1 u.2.2.2.2.2.1 u.2.2.2.2.2.2).1, (fX4_insert (s_cn S) (s_t0 S) (s_t1 S) (s_t2 S) (s_t3 S) (s_t4 S) (s_t5 S) u.2.1 u.2.2.1 u.2.2.2.1 u.2.2.2.2.1 u.2.2.2.2.2.1 u.2.2.2.2.2.2).2.1, (fX4_insert (s_cn S) (s_t0 S) (s_t1 S) (s_t2 S) (s_t3 S) (s_t4 S) (s_t5 S) u.2.1 u.2.2.1 u.2.2.2.1 u.2.2.2.2.1 u.2.2.2.2.2.1 u.2.2.2.2.2.2).2.2.1, (fX4_insert (s_cn S) (s_t0 S) (s_t1 S) (s_t2 S) (s_t3 S) (s_t4 S) (s_t5 S) u.2.1 u.2.2.1 u.2.2.2.1 u.2.2.2.2.1 u.2.2.2.2.2.1 u.2.2.2.2.2.2).2.2.2.1, (fX4_insert (s_cn S) (s_t0 S) (s_t1 S) (s_t2 S) (s_t3 S) (s_t4 S) (s_t5 S) u.2.1 u.2.2.1 u.2.2.2.1 u.2.2.2.2.1 u.2.2.2.2.2.1 u.2.2.2.2.2.2).2.2.2.2.1, (fX4_insert (s_cn S) (s_t0 S) (s_t1 S) (s_t2 S) (s_t3 S) (s_t4 S) (s_t5 S) u.2.1 u.2.2.1 u.2.2.2.1 u.2.2.2.2.1 u.2.2.2.2.2.1 u.2.2.2.2.2.2).2.2.2.2.2.1, (fX4_insert (s_cn S) (s_t0 S) (s_t1 S) (s_t2 S) (s_t3 S) (s_t4 S) (s_t5 S) u.2.1 u.2.2.1 u.2.2.2.1 u.2.2.2.2.1 u.2.2.2.2.2.1 u.2.2.2.2.2.2).2.2.2.2.2.2) else (5, s_ss S, s_a0 S, s_a1 S, s_a2 S, s_a3 S, s_a4 S, u.2.1, u.2.2.1, u.2.2.2.1, u.2.2.2.2.1, u.2.2.2.2.2.1, u.2.2.2.2.2.2, s_cn S, s_t0 S, s_t1 S, s_t2 S, s_t3 S, s_t4 S, s_t5 S)
def s_up (S : RS) : UO := fX2_addUp (s_nc S) (s_ss S) (s_ib S) (s_li S) (s_ff S) (s_fp S) (s_nb S) (s_a0 S) (s_a1 S) (s_a2 S) (s_a3 S) (s_a4 S) (s_g0 S) (s_g1 S) (s_g2 S) (s_g3 S) (s_g4 S) (s_g5 S)
theorem s_as_145 (S : RS) (h : s_nc S = 1 ∨ s_nc S = 4 ∨ s_nc S = 5) : s_as S = s_tail S (s_up S) := by
  unfold s_as fX2_addSegment s_tail s_up fX2_refuse
  simp only [bnd]
  rcases h with h | h | h
  · rw [if_pos h]
  · rw [if_neg (by rw [h]; decide), if_pos h]
  · rw [if_neg (by rw [h]; decide), if_neg (by rw [h]; decide), if_pos h]
theorem s_as_no (S : RS) (h1 : ¬ s_nc S = 1) (h4 : ¬ s_nc S = 4) (h5 : ¬ s_nc S = 5) : (s_as S).1 = 3 ∧ (s_as S).2.1 = s_ss S := by
  unfold s_as fX2_addSegment fX2_refuse
  simp only [bnd]
  rw [if_neg h1, if_neg h4, if_neg h5]
  exact ⟨rfl, rfl⟩
def SegOut (S : RS) (fo fa : Int32) (w : Int32 × Int32 × Int32 × Int32 × (Nat → Int32) × (Nat → Int64)) (r : AO) : Prop := (w.1 = 0 ∧ ¬ w.2.2.1 = 0 ∧ r.1 = w.2.2.1 ∧ r.2.1 = w.2.2.2.1) ∨ (w.1 = 1 ∧ w.2.2.1 = fo ∧ w.2.2.2.1 = fa ∧ r.1 = 0 ∧ RA (s_li S) r.2.2.1 r.2.2.2.1 r.2.2.2.2.1 r.2.2.2.2.2.1 r.2.2.2.2.2.2.1 r.2.2.2.2.2.2.2.2.2.2.2.2.2.1 w.2.2.2.2.2 w.2.1 ∧ RW r.2.2.2.2.2.2.2.2.2.2.2.2.2.1 r.2.2.2.2.2.2.2.2.2.2.2.2.2.2.1 r.2.2.2.2.2.2.2.2.2.2.2.2.2.2.2.1 r.2.2.2.2.2.2.2.2.2.2.2.2.2.2.2.2.1 r.2.2.2.2.2.2.2.2.2.2.2.2.2.2.2.2.2.1 r.2.2.2.2.2.2.2.2.2.2.2.2.2.2.2.2.2.2.1 r.2.2.2.2.2.2.2.2.2.2.2.2.2.2.2.2.2.2.2 w.2.2.2.2.1 ∧ LR r.2.2.2.2.2.2.2.2.2.2.2.2.2.1 r.2.2.2.2.2.2.2.2.2.2.2.2.2.2.1 r.2.2.2.2.2.2.2.2.2.2.2.2.2.2.2.1 (s_li S) r.2.2.1)
def m_tail (dc fo fa x gd : Int32) (dr dr' : Nat → Int32) (lz : Nat → Int64) : Int32 × Int32 × Int32 × Int32 × (Nat → Int32) × (Nat → Int64) := if gd = 0 then (0, dc, 4, x, dr, lz) else if dc = 300 then (0, dc, 5, x, dr, lz) else (1, dc + 1, fo, fa, dr', lz)
theorem s_tail_sim {S : RS} {u : UO} {la lz : Nat → Int64} {dr : Nat → Int32} {dc fo fa fs gd g1 g2 g3 g4 g5 x3 x4 : Int32} (hff : s_ff S = 0) (hA : RA (s_li S) (s_a0 S) (s_a1 S) (s_a2 S) (s_a3 S) (s_a4 S) (s_cn S) la dc) (hss : s_ss S = fs) (hW : RW (s_cn S) (s_t0 S) (s_t1 S) (s_t2 S) (s_t3 S) (s_t4 S) (s_t5 S) dr) (hL : LR (s_cn S) (s_t0 S) (s_t1 S) (s_li S) (s_a0 S))
    (hg : (gd = 0 ∧ u.1 = 0) ∨ (¬ gd = 0 ∧ u = (1, s_li S, g1, g2, g3, g4, g5) ∧ (s_a0 S).toInt ≤ g1.toInt ∧ (g1.toInt64 = lz 1 ∧ B6 g1) ∧ ((g2 = -1 ∧ lz 2 = la 2 ∧ lz 3 = la 3 ∧ lz 4 = la 4) ∨ ((g2.toInt64 = lz 2 ∧ B2 g2) ∧ (g3.toInt64 = lz 3 ∧ B6 g3) ∧ (g4.toInt64 = lz 4 ∧ B6 g4))) ∧ ((g5 = -1 ∧ lz 5 = la 5) ∨ (g5.toInt64 = lz 5 ∧ B2 g5)) ∧ lz 0 = la 0 ∧ (0 ≤ g2.toInt → x3 = g3 ∧ x4 = g4))) : SegOut S fo fa (m_tail dc fo fa fs gd dr (upd (upd (upd (upd (upd (upd dr (6 * dc).toNatClampNeg (s_li S)) ((6 * dc) + 1).toNatClampNeg g1) ((6 * dc) + 2).toNatClampNeg g2) ((6 * dc) + 3).toNatClampNeg x3) ((6 * dc) + 4).toNatClampNeg x4) ((6 * dc) + 5).toNatClampNeg g5) lz) (s_tail S u) := by
  obtain ⟨⟨hli, hli9⟩, ⟨ha0, hb0⟩, ⟨ha1, hb1⟩, ⟨ha2, hb2⟩, ⟨ha3, hb3⟩, ⟨ha4, hb4⟩, hcn, hd0, hd1⟩ := hA
  unfold SegOut m_tail s_tail
  rcases hg with ⟨q1, q2⟩ | ⟨q1, q2, q3, q4, q5, q6, q7, q8⟩
  · rw [if_pos q1, if_pos q2]
    exact Or.inl ⟨rfl, nz4, rfl, hss⟩
  · subst q2
    rw [if_neg q1, if_neg (show ¬ (1 : Int32) = 0 by decide)]
    by_cases c : dc = 300
    · rw [if_pos c, if_neg (by rw [hcn, c]; decide)]
      exact Or.inl ⟨rfl, nz5, rfl, hss⟩
    · have c9 := i_ne c
      rw [show (300 : Int32).toInt = 300 from by decide] at c9
      have hlt : dc.toInt < 300 := by omega
      rw [if_neg c, if_pos (by rw [hcn]; unfold fX4_isFull; rw [if_pos (Int32.lt_iff_toInt_lt.mpr (by rw [show (300 : Int32).toInt = 300 from by decide]; exact hlt))])]
      have e : (dc + 1).toInt = dc.toInt + 1 := by rw [ti_add (by rw [show (1 : Int32).toInt = 1 from by decide]; omega) (by rw [show (1 : Int32).toInt = 1 from by decide]; omega), show (1 : Int32).toInt = 1 from by decide]
      have hins := ins_end (cn := s_cn S) (t0 := s_t0 S) (t1 := s_t1 S) (t2 := s_t2 S) (t3 := s_t3 S) (t4 := s_t4 S) (t5 := s_t5 S) (g0 := s_li S) (g1 := g1) (g2 := g2) (g3 := g3) (g4 := g4) (g5 := g5) (by rw [hcn]; exact hd0) (by rw [hcn]; exact hlt) (fun j hj => by have := hL j hj; omega)
      have hpass : ∃ p, p = fX0_pass (s_a0 S) (s_a1 S) (s_a2 S) (s_a3 S) (s_a4 S) (s_li S) g1 g2 g3 g4 g5 ∧ p.1 = g1 ∧ (p.2.1.toInt64 = lz 2 ∧ B2 p.2.1) ∧ (p.2.2.1.toInt64 = lz 3 ∧ B6 p.2.2.1) ∧ (p.2.2.2.1.toInt64 = lz 4 ∧ B6 p.2.2.2.1) ∧ (p.2.2.2.2.toInt64 = lz 5 ∧ B2 p.2.2.2.2) := by
        refine ⟨_, rfl, ?_⟩
        unfold fX0_pass fX3_tellsSource fX3_tellsName
        simp only [bnd]
        have hn5 : (g5 < 0 ∧ lz 5 = la 5) ∨ (¬ g5 < 0 ∧ g5.toInt64 = lz 5 ∧ B2 g5) := by
          rcases q6 with ⟨a, b⟩ | ⟨a, b⟩
          · exact Or.inl ⟨by rw [a]; decide, b⟩
          · exact Or.inr ⟨i_z b.1, a, b⟩
        rcases q5 with ⟨a, b1, b2, b3⟩ | ⟨⟨a1, b1⟩, ⟨a2, b2⟩, ⟨a3, b3⟩⟩
        · have c2 : g2 < 0 := by rw [a]; decide
          rw [if_pos c2, if_pos rfl]
          rcases hn5 with ⟨c5, d5⟩ | ⟨c5, d5, f5⟩
          · rw [if_pos c5, if_pos rfl]
            exact ⟨rfl, ⟨by rw [b1]; exact ha1, hb1⟩, ⟨by rw [b2]; exact ha2, hb2⟩, ⟨by rw [b3]; exact ha3, hb3⟩, ⟨by rw [d5]; exact ha4, hb4⟩⟩
          · rw [if_neg c5, if_neg (by decide)]
            exact ⟨rfl, ⟨by rw [b1]; exact ha1, hb1⟩, ⟨by rw [b2]; exact ha2, hb2⟩, ⟨by rw [b3]; exact ha3, hb3⟩, ⟨d5, f5⟩⟩
        · rw [if_neg (i_z b1.1), if_neg (by decide)]
          rcases hn5 with ⟨c5, d5⟩ | ⟨c5, d5, f5⟩
          · rw [if_pos c5, if_pos rfl]
            exact ⟨rfl, ⟨a1, b1⟩, ⟨a2, b2⟩, ⟨a3, b3⟩, ⟨by rw [d5]; exact ha4, hb4⟩⟩
          · rw [if_neg c5, if_neg (by decide)]
            exact ⟨rfl, ⟨a1, b1⟩, ⟨a2, b2⟩, ⟨a3, b3⟩, ⟨d5, f5⟩⟩
      obtain ⟨pp, hp, p0, p1, p2, p3, p4⟩ := hpass
      right
      refine ⟨rfl, rfl, rfl, hff, ?_, ?_, ?_⟩
      · show RA (s_li S) (fX0_pass (s_a0 S) (s_a1 S) (s_a2 S) (s_a3 S) (s_a4 S) (s_li S) g1 g2 g3 g4 g5).1 (fX0_pass (s_a0 S) (s_a1 S) (s_a2 S) (s_a3 S) (s_a4 S) (s_li S) g1 g2 g3 g4 g5).2.1 (fX0_pass (s_a0 S) (s_a1 S) (s_a2 S) (s_a3 S) (s_a4 S) (s_li S) g1 g2 g3 g4 g5).2.2.1 (fX0_pass (s_a0 S) (s_a1 S) (s_a2 S) (s_a3 S) (s_a4 S) (s_li S) g1 g2 g3 g4 g5).2.2.2.1 (fX0_pass (s_a0 S) (s_a1 S) (s_a2 S) (s_a3 S) (s_a4 S) (s_li S) g1 g2 g3 g4 g5).2.2.2.2 (fX4_insert (s_cn S) (s_t0 S) (s_t1 S) (s_t2 S) (s_t3 S) (s_t4 S) (s_t5 S) (s_li S) g1 g2 g3 g4 g5).1 lz (dc + 1)
        rw [hins, ← hp, p0]
        exact ⟨⟨by rw [q7]; exact hli, hli9⟩, q4, p1, p2, p3, p4, by show s_cn S + 1 = dc + 1; rw [hcn], by omega, by omega⟩
      · show RW (fX4_insert (s_cn S) (s_t0 S) (s_t1 S) (s_t2 S) (s_t3 S) (s_t4 S) (s_t5 S) (s_li S) g1 g2 g3 g4 g5).1 (fX4_insert (s_cn S) (s_t0 S) (s_t1 S) (s_t2 S) (s_t3 S) (s_t4 S) (s_t5 S) (s_li S) g1 g2 g3 g4 g5).2.1 (fX4_insert (s_cn S) (s_t0 S) (s_t1 S) (s_t2 S) (s_t3 S) (s_t4 S) (s_t5 S) (s_li S) g1 g2 g3 g4 g5).2.2.1 (fX4_insert (s_cn S) (s_t0 S) (s_t1 S) (s_t2 S) (s_t3 S) (s_t4 S) (s_t5 S) (s_li S) g1 g2 g3 g4 g5).2.2.2.1 (fX4_insert (s_cn S) (s_t0 S) (s_t1 S) (s_t2 S) (s_t3 S) (s_t4 S) (s_t5 S) (s_li S) g1 g2 g3 g4 g5).2.2.2.2.1 (fX4_insert (s_cn S) (s_t0 S) (s_t1 S) (s_t2 S) (s_t3 S) (s_t4 S) (s_t5 S) (s_li S) g1 g2 g3 g4 g5).2.2.2.2.2.1 (fX4_insert (s_cn S) (s_t0 S) (s_t1 S) (s_t2 S) (s_t3 S) (s_t4 S) (s_t5 S) (s_li S) g1 g2 g3 g4 g5).2.2.2.2.2.2 _
        rw [hins]
        rw [hcn] at hW ⊢
        exact RW_push hd0 hlt hW q8 ⟨q4.2.1, fun z => by
          rcases q5 with ⟨a, _⟩ | ⟨_, ⟨_, b3⟩, ⟨_, b4⟩⟩
          · rw [a] at z; exact absurd z (by decide)
          · exact ⟨b3.1, b4.1⟩⟩ (fun j hj => by have := hL j (by rw [hcn]; exact hj); omega)
      · show LR (fX4_insert (s_cn S) (s_t0 S) (s_t1 S) (s_t2 S) (s_t3 S) (s_t4 S) (s_t5 S) (s_li S) g1 g2 g3 g4 g5).1 (fX4_insert (s_cn S) (s_t0 S) (s_t1 S) (s_t2 S) (s_t3 S) (s_t4 S) (s_t5 S) (s_li S) g1 g2 g3 g4 g5).2.1 (fX4_insert (s_cn S) (s_t0 S) (s_t1 S) (s_t2 S) (s_t3 S) (s_t4 S) (s_t5 S) (s_li S) g1 g2 g3 g4 g5).2.2.1 (s_li S) (fX0_pass (s_a0 S) (s_a1 S) (s_a2 S) (s_a3 S) (s_a4 S) (s_li S) g1 g2 g3 g4 g5).1
        rw [hins, ← hp, p0, hcn]
        exact LR_push hd0 hlt
