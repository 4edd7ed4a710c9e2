theorem sum64 {a : Int32} {l z : Int64} (h : a.toInt64 = l) (h0 : 0 ≤ a.toInt) (h1 : a.toInt ≤ 999999) (z0 : -2147483647 ≤ z.toInt) (z1 : z.toInt ≤ 2147483647) : (l + z).toInt = a.toInt + z.toInt := by
  have e : l.toInt = a.toInt := by rw [← h, Int32.toInt_toInt64]
  rw [Int64.toInt_add, e]
  exact Int.bmod_eq_of_le (by omega) (by omega)
theorem inb6 {x : Int64} (h : ¬ fX9_within x 999999 = 0) : (x.toInt32).toInt64 = x ∧ B6 x.toInt32 := by
  have b := wib h
  rw [show (999999 : Int64).toInt = 999999 from by decide] at b
  have e := i3264 (x := x) (by omega) (by omega)
  exact ⟨e.1, by unfold B6; rw [e.2]; exact b⟩
theorem inb2 {x : Int64} (h : ¬ fX9_within x 99 = 0) : (x.toInt32).toInt64 = x ∧ B2 x.toInt32 := by
  have b := wib h
  rw [show (99 : Int64).toInt = 99 from by decide] at b
  have e := i3264 (x := x) (by omega) (by omega)
  exact ⟨e.1, by unfold B2; rw [e.2]; exact b⟩
theorem col_ok {a : Int32} {l z : Int64} (h : a.toInt64 = l) (hb : B6 a) (z0 : -2147483647 ≤ z.toInt) (z1 : z.toInt ≤ 2147483647) (c0 : ¬ (lg_cmp z 0) < 0) : fX9_within (l + z) 999999 = if (lg_cmp (l + z) 999999) ≤ 0 then 1 else 0 := by
  refine wit ?_
  rw [sum64 h hb.1 hb.2 z0 z1]
  rw [lg_cmp_lt, Int64.lt_iff_toInt_lt, show (0 : Int64).toInt = 0 from by decide] at c0
  have := hb.1
  omega
theorem col_in {a : Int32} {l z : Int64} (h : a.toInt64 = l) (hb : B6 a) (z0 : -2147483647 ≤ z.toInt) (z1 : z.toInt ≤ 2147483647) (c0 : ¬ (lg_cmp z 0) < 0) (c1 : (lg_cmp (l + z) 999999) ≤ 0) : a.toInt ≤ ((l + z).toInt32).toInt ∧ ((l + z).toInt32).toInt64 = l + z ∧ B6 (l + z).toInt32 := by
  have s0 := sum64 h hb.1 hb.2 z0 z1
  rw [lg_cmp_lt, Int64.lt_iff_toInt_lt, show (0 : Int64).toInt = 0 from by decide] at c0
  rw [lg_cmp_le, Int64.le_iff_toInt_le, show (999999 : Int64).toInt = 999999 from by decide] at c1
  have h0 := hb.1
  have e := i3264 (x := l + z) (by omega) (by omega)
  exact ⟨by rw [e.2]; omega, e.1, by unfold B6; rw [e.2]; omega⟩
set_option maxHeartbeats 4000000 in
theorem s_seg {S : RS} {la nu : Nat → Int64} {dr : Nat → Int32} {th dc tl xl fo fa mn ft wl fs : Int32} (hff : s_ff S = 0) (hA : RA (s_li S) (s_a0 S) (s_a1 S) (s_a2 S) (s_a3 S) (s_a4 S) (s_cn S) la dc) (hnc : s_nc S = mn) (hm : 1 ≤ mn.toInt) (hnb : ∀ j : Nat, j < 5 → (j : Int) < mn.toInt → s_nb S j = nu j ∧ -2147483647 ≤ (nu j).toInt ∧ (nu j).toInt ≤ 2147483647) (hss : s_ss S = fs) (hW : RW (s_cn S) (s_t0 S) (s_t1 S) (s_t2 S) (s_t3 S) (s_t4 S) (s_t5 S) dr) (hL : LR (s_cn S) (s_t0 S) (s_t1 S) (s_li S) (s_a0 S)) : SegOut S fo fa (fX9_segment th dc tl xl fo fa mn ft wl dr nu la fs) (s_as S) := by
  obtain ⟨⟨hli, hli9⟩, ⟨ha0, hb0⟩, ⟨ha1, hb1⟩, ⟨ha2, hb2⟩, ⟨ha3, hb3⟩, ⟨ha4, hb4⟩, hcn, hd0, hd1⟩ := id hA
  obtain ⟨y0, y0a, y0b⟩ := hnb 0 (by decide) (by show (0 : Int) < mn.toInt; omega)
  have hY0 : s_nb S (0 : Int32).toNatClampNeg = nu (0 : Int32).toNatClampNeg := y0
  have hX0 : ((s_a0 S).toInt64 + (s_nb S (0 : Int32).toNatClampNeg)) = (la (1 : Int32).toNatClampNeg + nu (0 : Int32).toNatClampNeg) := by rw [hY0]; show (s_a0 S).toInt64 + nu 0 = la 1 + nu 0; rw [ha0]
  have hwc : ¬ (lg_cmp (nu (0 : Int32).toNatClampNeg) 0) < 0 → fX9_within (la (1 : Int32).toNatClampNeg + nu (0 : Int32).toNatClampNeg) 999999 = if (lg_cmp (la (1 : Int32).toNatClampNeg + nu (0 : Int32).toNatClampNeg) 999999) ≤ 0 then 1 else 0 := fun c => col_ok ha0 hb0 y0a y0b c
  by_cases h1 : mn = 1
  · have h5 : ¬ mn = 5 := by rw [h1]; decide
    have hn : s_nc S = 1 := hnc.trans h1
    rw [s_as_145 S (Or.inl hn)]
    have hw : ∃ gd, fX9_segment th dc tl xl fo fa mn ft wl dr nu la fs = m_tail dc fo fa fs gd dr (upd (upd (upd (upd (upd (upd dr (6 * dc).toNatClampNeg (((vp_updL la (1 : Int32).toNatClampNeg ((la (1 : Int32).toNatClampNeg) + (nu (0 : Int32).toNatClampNeg))) (0 : Int32).toNatClampNeg : Int64).toInt32)) ((6 * dc) + 1).toNatClampNeg (((vp_updL la (1 : Int32).toNatClampNeg ((la (1 : Int32).toNatClampNeg) + (nu (0 : Int32).toNatClampNeg))) (1 : Int32).toNatClampNeg : Int64).toInt32)) ((6 * dc) + 2).toNatClampNeg (if mn = 1 then (-1) else ((vp_updL la (1 : Int32).toNatClampNeg ((la (1 : Int32).toNatClampNeg) + (nu (0 : Int32).toNatClampNeg))) (2 : Int32).toNatClampNeg : Int64).toInt32)) ((6 * dc) + 3).toNatClampNeg (if mn = 1 then 0 else ((vp_updL la (1 : Int32).toNatClampNeg ((la (1 : Int32).toNatClampNeg) + (nu (0 : Int32).toNatClampNeg))) (3 : Int32).toNatClampNeg : Int64).toInt32)) ((6 * dc) + 4).toNatClampNeg (if mn = 1 then 0 else ((vp_updL la (1 : Int32).toNatClampNeg ((la (1 : Int32).toNatClampNeg) + (nu (0 : Int32).toNatClampNeg))) (4 : Int32).toNatClampNeg : Int64).toInt32)) ((6 * dc) + 5).toNatClampNeg (if mn = 5 then ((vp_updL la (1 : Int32).toNatClampNeg ((la (1 : Int32).toNatClampNeg) + (nu (0 : Int32).toNatClampNeg))) (5 : Int32).toNatClampNeg : Int64).toInt32 else (-1))) (vp_updL la (1 : Int32).toNatClampNeg ((la (1 : Int32).toNatClampNeg) + (nu (0 : Int32).toNatClampNeg))) ∧ ((gd = 0 ∧ ((lg_cmp (nu (0 : Int32).toNatClampNeg) 0) < 0 ∨ ¬ (lg_cmp (la (1 : Int32).toNatClampNeg + nu (0 : Int32).toNatClampNeg) 999999) ≤ 0)) ∨ (¬ gd = 0 ∧ (¬ (lg_cmp (nu (0 : Int32).toNatClampNeg) 0) < 0 ∧ (lg_cmp (la (1 : Int32).toNatClampNeg + nu (0 : Int32).toNatClampNeg) 999999) ≤ 0))) := by
      unfold fX9_segment
      simp only [bnd]
      rw [if_pos h1]
      have hm1 : mn ≤ 1 := by rw [h1]; decide
      simp only [if_pos hm1, m217]
      by_cases c0 : (lg_cmp (nu (0 : Int32).toNatClampNeg) 0) < 0
      · exact ⟨0, by rw [if_pos c0], Or.inl ⟨rfl, Or.inl c0⟩⟩
      · by_cases c1 : (lg_cmp (la (1 : Int32).toNatClampNeg + nu (0 : Int32).toNatClampNeg) 999999) ≤ 0
        · exact ⟨1, by rw [if_neg c0, if_neg (by show ¬ fX9_within (la (1 : Int32).toNatClampNeg + nu (0 : Int32).toNatClampNeg) 999999 = 0; rw [hwc c0, if_pos c1]; decide)], Or.inr ⟨nz1, c0, c1⟩⟩
        · exact ⟨0, by rw [if_neg c0, if_pos (by show fX9_within (la (1 : Int32).toNatClampNeg + nu (0 : Int32).toNatClampNeg) 999999 = 0; rw [hwc c0, if_neg c1])], Or.inl ⟨rfl, Or.inr c1⟩⟩
    obtain ⟨gd, hw, hg⟩ := hw
    rw [hw]
    have r0 : ((vp_updL la (1 : Int32).toNatClampNeg ((la (1 : Int32).toNatClampNeg) + (nu (0 : Int32).toNatClampNeg))) (0 : Int32).toNatClampNeg : Int64).toInt32 = s_li S := by show (la 0).toInt32 = _; rw [← hli, i6432]
    rw [r0]
    simp only [if_pos h1, if_neg h5]
    refine s_tail_sim (u := s_up S) (la := la) (lz := (vp_updL la (1 : Int32).toNatClampNeg ((la (1 : Int32).toNatClampNeg) + (nu (0 : Int32).toNatClampNeg)))) (gd := gd) (g1 := (((la (1 : Int32).toNatClampNeg + nu (0 : Int32).toNatClampNeg) : Int64).toInt32)) (g2 := -1) (g3 := -1) (g4 := -1) (g5 := -1) (x3 := 0) (x4 := 0) hff hA hss hW hL ?_
    rcases hg with ⟨e1, e2⟩ | ⟨e1, e2⟩
    · refine Or.inl ⟨e1, ?_⟩
      by_cases c0 : (lg_cmp (nu (0 : Int32).toNatClampNeg) 0) < 0
      · exact up_0 S (Or.inl (by rw [hY0]; exact c0))
      · by_cases c1 : (lg_cmp (la (1 : Int32).toNatClampNeg + nu (0 : Int32).toNatClampNeg) 999999) ≤ 0
        · exact absurd c1 (e2.resolve_left c0)
        · exact up_0 S (Or.inr (by rw [hX0]; exact c1))
    · obtain ⟨c0, c1⟩ := e2
      have hc := col_in ha0 hb0 y0a y0b c0 c1
      refine Or.inr ⟨e1, ?_, hc.1, hc.2, Or.inl ⟨rfl, rfl, rfl, rfl⟩, Or.inl ⟨rfl, rfl⟩, rfl, fun q => absurd q (by decide)⟩
      rw [up_1 S hn (by rw [hY0]; exact c0) (by rw [hX0]; exact c1), hX0]
  · by_cases h4 : mn = 4
    · have h5 : ¬ mn = 5 := by rw [h4]; decide
      have hn : s_nc S = 4 := hnc.trans h4
      rw [s_as_145 S (Or.inr (Or.inl hn))]
      obtain ⟨y1, y1a, y1b⟩ := hnb 1 (by decide) (by rw [h4]; decide)
      have hX1 : ((s_a1 S).toInt64 + (s_nb S (1 : Int32).toNatClampNeg)) = (la (2 : Int32).toNatClampNeg + nu (1 : Int32).toNatClampNeg) := by show (s_a1 S).toInt64 + s_nb S 1 = la 2 + nu 1; rw [y1, ha1]
      obtain ⟨y2, y2a, y2b⟩ := hnb 2 (by decide) (by rw [h4]; decide)
      have hX2 : ((s_a2 S).toInt64 + (s_nb S (2 : Int32).toNatClampNeg)) = (la (3 : Int32).toNatClampNeg + nu (2 : Int32).toNatClampNeg) := by show (s_a2 S).toInt64 + s_nb S 2 = la 3 + nu 2; rw [y2, ha2]
      obtain ⟨y3, y3a, y3b⟩ := hnb 3 (by decide) (by rw [h4]; decide)
      have hX3 : ((s_a3 S).toInt64 + (s_nb S (3 : Int32).toNatClampNeg)) = (la (4 : Int32).toNatClampNeg + nu (3 : Int32).toNatClampNeg) := by show (s_a3 S).toInt64 + s_nb S 3 = la 4 + nu 3; rw [y3, ha3]
      have hw : ∃ gd, fX9_segment th dc tl xl fo fa mn ft wl dr nu la fs = m_tail dc fo fa fs gd dr (upd (upd (upd (upd (upd (upd dr (6 * dc).toNatClampNeg (((L4 (vp_updL la (1 : Int32).toNatClampNeg ((la (1 : Int32).toNatClampNeg) + (nu (0 : Int32).toNatClampNeg))) nu) (0 : Int32).toNatClampNeg : Int64).toInt32)) ((6 * dc) + 1).toNatClampNeg (((L4 (vp_updL la (1 : Int32).toNatClampNeg ((la (1 : Int32).toNatClampNeg) + (nu (0 : Int32).toNatClampNeg))) nu) (1 : Int32).toNatClampNeg : Int64).toInt32)) ((6 * dc) + 2).toNatClampNeg (if mn = 1 then (-1) else ((L4 (vp_updL la (1 : Int32).toNatClampNeg ((la (1 : Int32).toNatClampNeg) + (nu (0 : Int32).toNatClampNeg))) nu) (2 : Int32).toNatClampNeg : Int64).toInt32)) ((6 * dc) + 3).toNatClampNeg (if mn = 1 then 0 else ((L4 (vp_updL la (1 : Int32).toNatClampNeg ((la (1 : Int32).toNatClampNeg) + (nu (0 : Int32).toNatClampNeg))) nu) (3 : Int32).toNatClampNeg : Int64).toInt32)) ((6 * dc) + 4).toNatClampNeg (if mn = 1 then 0 else ((L4 (vp_updL la (1 : Int32).toNatClampNeg ((la (1 : Int32).toNatClampNeg) + (nu (0 : Int32).toNatClampNeg))) nu) (4 : Int32).toNatClampNeg : Int64).toInt32)) ((6 * dc) + 5).toNatClampNeg (if mn = 5 then ((L4 (vp_updL la (1 : Int32).toNatClampNeg ((la (1 : Int32).toNatClampNeg) + (nu (0 : Int32).toNatClampNeg))) nu) (5 : Int32).toNatClampNeg : Int64).toInt32 else (-1))) (L4 (vp_updL la (1 : Int32).toNatClampNeg ((la (1 : Int32).toNatClampNeg) + (nu (0 : Int32).toNatClampNeg))) nu) ∧ ((gd = 0 ∧ ((lg_cmp (nu (0 : Int32).toNatClampNeg) 0) < 0 ∨ ¬ (lg_cmp (la (1 : Int32).toNatClampNeg + nu (0 : Int32).toNatClampNeg) 999999) ≤ 0 ∨ fX9_within (la (2 : Int32).toNatClampNeg + nu (1 : Int32).toNatClampNeg) 99 = 0 ∨ fX9_within (la (3 : Int32).toNatClampNeg + nu (2 : Int32).toNatClampNeg) 999999 = 0 ∨ fX9_within (la (4 : Int32).toNatClampNeg + nu (3 : Int32).toNatClampNeg) 999999 = 0)) ∨ (¬ gd = 0 ∧ (¬ (lg_cmp (nu (0 : Int32).toNatClampNeg) 0) < 0 ∧ (lg_cmp (la (1 : Int32).toNatClampNeg + nu (0 : Int32).toNatClampNeg) 999999) ≤ 0 ∧ ¬ fX9_within (la (2 : Int32).toNatClampNeg + nu (1 : Int32).toNatClampNeg) 99 = 0 ∧ ¬ fX9_within (la (3 : Int32).toNatClampNeg + nu (2 : Int32).toNatClampNeg) 999999 = 0 ∧ ¬ fX9_within (la (4 : Int32).toNatClampNeg + nu (3 : Int32).toNatClampNeg) 999999 = 0))) := by
        unfold fX9_segment
        simp only [bnd]
        rw [if_neg h1, if_pos h4]
        have hm1 : ¬ mn ≤ 1 := by rw [h4]; decide
        simp only [if_neg hm1]
        by_cases c0 : (lg_cmp (nu (0 : Int32).toNatClampNeg) 0) < 0
        · obtain ⟨gd, e, f⟩ := m98_4 (dc := dc) (th := th) (tl := tl) (xl := xl) (fo := fo) (fa := fa) (ft := ft) (wl := wl) (x := fs) (gd := 0) (dr := dr) (nu := nu) (la := la) (lz := (vp_updL la (1 : Int32).toNatClampNeg ((la (1 : Int32).toNatClampNeg) + (nu (0 : Int32).toNatClampNeg)))) h4
          rcases f with ⟨f1, _⟩ | ⟨_, f2, _⟩
          · exact ⟨gd, by rw [if_pos c0, e], Or.inl ⟨f1, Or.inl c0⟩⟩
          · exact absurd rfl f2
        · by_cases c1 : (lg_cmp (la (1 : Int32).toNatClampNeg + nu (0 : Int32).toNatClampNeg) 999999) ≤ 0
          · obtain ⟨gd, e, f⟩ := m98_4 (dc := dc) (th := th) (tl := tl) (xl := xl) (fo := fo) (fa := fa) (ft := ft) (wl := wl) (x := fs) (gd := 1) (dr := dr) (nu := nu) (la := la) (lz := (vp_updL la (1 : Int32).toNatClampNeg ((la (1 : Int32).toNatClampNeg) + (nu (0 : Int32).toNatClampNeg)))) h4
            have hi : ¬ fX9_within ((vp_updL la (1 : Int32).toNatClampNeg ((la (1 : Int32).toNatClampNeg) + (nu (0 : Int32).toNatClampNeg))) (1 : Int32).toNatClampNeg) 999999 = 0 := show ¬ fX9_within (la (1 : Int32).toNatClampNeg + nu (0 : Int32).toNatClampNeg) 999999 = 0 by rw [hwc c0, if_pos c1]; decide
            rcases f with ⟨f1, f2⟩ | ⟨f1, _, f2⟩
            · refine ⟨gd, by rw [if_neg c0, if_neg hi, e], Or.inl ⟨f1, Or.inr (Or.inr ?_)⟩⟩
              exact f2.resolve_left nz1
            · exact ⟨gd, by rw [if_neg c0, if_neg hi, e], Or.inr ⟨f1, c0, c1, f2⟩⟩
          · obtain ⟨gd, e, f⟩ := m98_4 (dc := dc) (th := th) (tl := tl) (xl := xl) (fo := fo) (fa := fa) (ft := ft) (wl := wl) (x := fs) (gd := 0) (dr := dr) (nu := nu) (la := la) (lz := (vp_updL la (1 : Int32).toNatClampNeg ((la (1 : Int32).toNatClampNeg) + (nu (0 : Int32).toNatClampNeg)))) h4
            have hi : fX9_within ((vp_updL la (1 : Int32).toNatClampNeg ((la (1 : Int32).toNatClampNeg) + (nu (0 : Int32).toNatClampNeg))) (1 : Int32).toNatClampNeg) 999999 = 0 := show fX9_within (la (1 : Int32).toNatClampNeg + nu (0 : Int32).toNatClampNeg) 999999 = 0 by rw [hwc c0, if_neg c1]
            rcases f with ⟨f1, _⟩ | ⟨_, f2, _⟩
            · exact ⟨gd, by rw [if_neg c0, if_pos hi, e], Or.inl ⟨f1, Or.inr (Or.inl c1)⟩⟩
            · exact absurd rfl f2
      obtain ⟨gd, hw, hg⟩ := hw
      rw [hw]
      have r0 : ((L4 (vp_updL la (1 : Int32).toNatClampNeg ((la (1 : Int32).toNatClampNeg) + (nu (0 : Int32).toNatClampNeg))) nu) (0 : Int32).toNatClampNeg : Int64).toInt32 = s_li S := by show (la 0).toInt32 = _; rw [← hli, i6432]
      rw [r0]
      simp only [if_neg h1, if_neg h5]
      refine s_tail_sim (u := s_up S) (la := la) (lz := (L4 (vp_updL la (1 : Int32).toNatClampNeg ((la (1 : Int32).toNatClampNeg) + (nu (0 : Int32).toNatClampNeg))) nu)) (gd := gd) (g1 := (((la (1 : Int32).toNatClampNeg + nu (0 : Int32).toNatClampNeg) : Int64).toInt32)) (g2 := (((la (2 : Int32).toNatClampNeg + nu (1 : Int32).toNatClampNeg) : Int64).toInt32)) (g3 := (((la (3 : Int32).toNatClampNeg + nu (2 : Int32).toNatClampNeg) : Int64).toInt32)) (g4 := (((la (4 : Int32).toNatClampNeg + nu (3 : Int32).toNatClampNeg) : Int64).toInt32)) (g5 := -1) (x3 := (((la (3 : Int32).toNatClampNeg + nu (2 : Int32).toNatClampNeg) : Int64).toInt32)) (x4 := (((la (4 : Int32).toNatClampNeg + nu (3 : Int32).toNatClampNeg) : Int64).toInt32)) hff hA hss hW hL ?_
      rcases hg with ⟨e1, e2⟩ | ⟨e1, e2⟩
      · refine Or.inl ⟨e1, ?_⟩
        by_cases c0 : (lg_cmp (nu (0 : Int32).toNatClampNeg) 0) < 0
        · exact up_0 S (Or.inl (by rw [hY0]; exact c0))
        · by_cases c1 : (lg_cmp (la (1 : Int32).toNatClampNeg + nu (0 : Int32).toNatClampNeg) 999999) ≤ 0
          · rcases up_4 S hn (by rw [hY0]; exact c0) (by rw [hX0]; exact c1) with u | u
            · rw [hX1, hX2, hX3] at u
              have e3 := (e2.resolve_left c0).resolve_left (fun q => q c1)
              exact absurd e3 (fun q => by rcases q with q | q | q; exact u.1 q; exact u.2.1 q; exact u.2.2.1 q)
            · exact u.2
          · exact up_0 S (Or.inr (by rw [hX0]; exact c1))
      · obtain ⟨c0, c1, w1, w2, w3⟩ := e2
        have hc := col_in ha0 hb0 y0a y0b c0 c1
        refine Or.inr ⟨e1, ?_, hc.1, hc.2, Or.inr ⟨inb2 w1, inb6 w2, inb6 w3⟩, Or.inl ⟨rfl, rfl⟩, rfl, fun _ => ⟨rfl, rfl⟩⟩
        rcases up_4 S hn (by rw [hY0]; exact c0) (by rw [hX0]; exact c1) with u | u
        · rw [u.2.2.2, hX0, hX1, hX2, hX3]
        · rw [hX1, hX2, hX3] at u
          exact absurd u.1 (fun q => by rcases q with q | q | q; exact w1 q; exact w2 q; exact w3 q)
    · by_cases h5 : mn = 5
      · skip
        have hn : s_nc S = 5 := hnc.trans h5
        rw [s_as_145 S (Or.inr (Or.inr hn))]
        obtain ⟨y1, y1a, y1b⟩ := hnb 1 (by decide) (by rw [h5]; decide)
        have hX1 : ((s_a1 S).toInt64 + (s_nb S (1 : Int32).toNatClampNeg)) = (la (2 : Int32).toNatClampNeg + nu (1 : Int32).toNatClampNeg) := by show (s_a1 S).toInt64 + s_nb S 1 = la 2 + nu 1; rw [y1, ha1]
        obtain ⟨y2, y2a, y2b⟩ := hnb 2 (by decide) (by rw [h5]; decide)
        have hX2 : ((s_a2 S).toInt64 + (s_nb S (2 : Int32).toNatClampNeg)) = (la (3 : Int32).toNatClampNeg + nu (2 : Int32).toNatClampNeg) := by show (s_a2 S).toInt64 + s_nb S 2 = la 3 + nu 2; rw [y2, ha2]
        obtain ⟨y3, y3a, y3b⟩ := hnb 3 (by decide) (by rw [h5]; decide)
        have hX3 : ((s_a3 S).toInt64 + (s_nb S (3 : Int32).toNatClampNeg)) = (la (4 : Int32).toNatClampNeg + nu (3 : Int32).toNatClampNeg) := by show (s_a3 S).toInt64 + s_nb S 3 = la 4 + nu 3; rw [y3, ha3]
        obtain ⟨y4, y4a, y4b⟩ := hnb 4 (by decide) (by rw [h5]; decide)
        have hX4 : ((s_a4 S).toInt64 + (s_nb S (4 : Int32).toNatClampNeg)) = (la (5 : Int32).toNatClampNeg + nu (4 : Int32).toNatClampNeg) := by show (s_a4 S).toInt64 + s_nb S 4 = la 5 + nu 4; rw [y4, ha4]
        have hw : ∃ gd, fX9_segment th dc tl xl fo fa mn ft wl dr nu la fs = m_tail dc fo fa fs gd dr (upd (upd (upd (upd (upd (upd dr (6 * dc).toNatClampNeg (((L5 (vp_updL la (1 : Int32).toNatClampNeg ((la (1 : Int32).toNatClampNeg) + (nu (0 : Int32).toNatClampNeg))) nu) (0 : Int32).toNatClampNeg : Int64).toInt32)) ((6 * dc) + 1).toNatClampNeg (((L5 (vp_updL la (1 : Int32).toNatClampNeg ((la (1 : Int32).toNatClampNeg) + (nu (0 : Int32).toNatClampNeg))) nu) (1 : Int32).toNatClampNeg : Int64).toInt32)) ((6 * dc) + 2).toNatClampNeg (if mn = 1 then (-1) else ((L5 (vp_updL la (1 : Int32).toNatClampNeg ((la (1 : Int32).toNatClampNeg) + (nu (0 : Int32).toNatClampNeg))) nu) (2 : Int32).toNatClampNeg : Int64).toInt32)) ((6 * dc) + 3).toNatClampNeg (if mn = 1 then 0 else ((L5 (vp_updL la (1 : Int32).toNatClampNeg ((la (1 : Int32).toNatClampNeg) + (nu (0 : Int32).toNatClampNeg))) nu) (3 : Int32).toNatClampNeg : Int64).toInt32)) ((6 * dc) + 4).toNatClampNeg (if mn = 1 then 0 else ((L5 (vp_updL la (1 : Int32).toNatClampNeg ((la (1 : Int32).toNatClampNeg) + (nu (0 : Int32).toNatClampNeg))) nu) (4 : Int32).toNatClampNeg : Int64).toInt32)) ((6 * dc) + 5).toNatClampNeg (if mn = 5 then ((L5 (vp_updL la (1 : Int32).toNatClampNeg ((la (1 : Int32).toNatClampNeg) + (nu (0 : Int32).toNatClampNeg))) nu) (5 : Int32).toNatClampNeg : Int64).toInt32 else (-1))) (L5 (vp_updL la (1 : Int32).toNatClampNeg ((la (1 : Int32).toNatClampNeg) + (nu (0 : Int32).toNatClampNeg))) nu) ∧ ((gd = 0 ∧ ((lg_cmp (nu (0 : Int32).toNatClampNeg) 0) < 0 ∨ ¬ (lg_cmp (la (1 : Int32).toNatClampNeg + nu (0 : Int32).toNatClampNeg) 999999) ≤ 0 ∨ fX9_within (la (2 : Int32).toNatClampNeg + nu (1 : Int32).toNatClampNeg) 99 = 0 ∨ fX9_within (la (3 : Int32).toNatClampNeg + nu (2 : Int32).toNatClampNeg) 999999 = 0 ∨ fX9_within (la (4 : Int32).toNatClampNeg + nu (3 : Int32).toNatClampNeg) 999999 = 0 ∨ fX9_within (la (5 : Int32).toNatClampNeg + nu (4 : Int32).toNatClampNeg) 99 = 0)) ∨ (¬ gd = 0 ∧ (¬ (lg_cmp (nu (0 : Int32).toNatClampNeg) 0) < 0 ∧ (lg_cmp (la (1 : Int32).toNatClampNeg + nu (0 : Int32).toNatClampNeg) 999999) ≤ 0 ∧ ¬ fX9_within (la (2 : Int32).toNatClampNeg + nu (1 : Int32).toNatClampNeg) 99 = 0 ∧ ¬ fX9_within (la (3 : Int32).toNatClampNeg + nu (2 : Int32).toNatClampNeg) 999999 = 0 ∧ ¬ fX9_within (la (4 : Int32).toNatClampNeg + nu (3 : Int32).toNatClampNeg) 999999 = 0 ∧ ¬ fX9_within (la (5 : Int32).toNatClampNeg + nu (4 : Int32).toNatClampNeg) 99 = 0))) := by
          unfold fX9_segment
          simp only [bnd]
          rw [if_neg h1, if_neg h4, if_pos h5]
          have hm1 : ¬ mn ≤ 1 := by rw [h5]; decide
          simp only [if_neg hm1]
          by_cases c0 : (lg_cmp (nu (0 : Int32).toNatClampNeg) 0) < 0
          · obtain ⟨gd, e, f⟩ := m98_5 (dc := dc) (th := th) (tl := tl) (xl := xl) (fo := fo) (fa := fa) (ft := ft) (wl := wl) (x := fs) (gd := 0) (dr := dr) (nu := nu) (la := la) (lz := (vp_updL la (1 : Int32).toNatClampNeg ((la (1 : Int32).toNatClampNeg) + (nu (0 : Int32).toNatClampNeg)))) h5
            rcases f with ⟨f1, _⟩ | ⟨_, f2, _⟩
            · exact ⟨gd, by rw [if_pos c0, e], Or.inl ⟨f1, Or.inl c0⟩⟩
            · exact absurd rfl f2
          · by_cases c1 : (lg_cmp (la (1 : Int32).toNatClampNeg + nu (0 : Int32).toNatClampNeg) 999999) ≤ 0
            · obtain ⟨gd, e, f⟩ := m98_5 (dc := dc) (th := th) (tl := tl) (xl := xl) (fo := fo) (fa := fa) (ft := ft) (wl := wl) (x := fs) (gd := 1) (dr := dr) (nu := nu) (la := la) (lz := (vp_updL la (1 : Int32).toNatClampNeg ((la (1 : Int32).toNatClampNeg) + (nu (0 : Int32).toNatClampNeg)))) h5
              have hi : ¬ fX9_within ((vp_updL la (1 : Int32).toNatClampNeg ((la (1 : Int32).toNatClampNeg) + (nu (0 : Int32).toNatClampNeg))) (1 : Int32).toNatClampNeg) 999999 = 0 := show ¬ fX9_within (la (1 : Int32).toNatClampNeg + nu (0 : Int32).toNatClampNeg) 999999 = 0 by rw [hwc c0, if_pos c1]; decide
              rcases f with ⟨f1, f2⟩ | ⟨f1, _, f2⟩
              · refine ⟨gd, by rw [if_neg c0, if_neg hi, e], Or.inl ⟨f1, Or.inr (Or.inr ?_)⟩⟩
                exact f2.resolve_left nz1
              · exact ⟨gd, by rw [if_neg c0, if_neg hi, e], Or.inr ⟨f1, c0, c1, f2⟩⟩
            · obtain ⟨gd, e, f⟩ := m98_5 (dc := dc) (th := th) (tl := tl) (xl := xl) (fo := fo) (fa := fa) (ft := ft) (wl := wl) (x := fs) (gd := 0) (dr := dr) (nu := nu) (la := la) (lz := (vp_updL la (1 : Int32).toNatClampNeg ((la (1 : Int32).toNatClampNeg) + (nu (0 : Int32).toNatClampNeg)))) h5
              have hi : fX9_within ((vp_updL la (1 : Int32).toNatClampNeg ((la (1 : Int32).toNatClampNeg) + (nu (0 : Int32).toNatClampNeg))) (1 : Int32).toNatClampNeg) 999999 = 0 := show fX9_within (la (1 : Int32).toNatClampNeg + nu (0 : Int32).toNatClampNeg) 999999 = 0 by rw [hwc c0, if_neg c1]
              rcases f with ⟨f1, _⟩ | ⟨_, f2, _⟩
              · exact ⟨gd, by rw [if_neg c0, if_pos hi, e], Or.inl ⟨f1, Or.inr (Or.inl c1)⟩⟩
              · exact absurd rfl f2
        obtain ⟨gd, hw, hg⟩ := hw
        rw [hw]
        have r0 : ((L5 (vp_updL la (1 : Int32).toNatClampNeg ((la (1 : Int32).toNatClampNeg) + (nu (0 : Int32).toNatClampNeg))) nu) (0 : Int32).toNatClampNeg : Int64).toInt32 = s_li S := by show (la 0).toInt32 = _; rw [← hli, i6432]
        rw [r0]
        simp only [if_neg h1, if_pos h5]
        refine s_tail_sim (u := s_up S) (la := la) (lz := (L5 (vp_updL la (1 : Int32).toNatClampNeg ((la (1 : Int32).toNatClampNeg) + (nu (0 : Int32).toNatClampNeg))) nu)) (gd := gd) (g1 := (((la (1 : Int32).toNatClampNeg + nu (0 : Int32).toNatClampNeg) : Int64).toInt32)) (g2 := (((la (2 : Int32).toNatClampNeg + nu (1 : Int32).toNatClampNeg) : Int64).toInt32)) (g3 := (((la (3 : Int32).toNatClampNeg + nu (2 : Int32).toNatClampNeg) : Int64).toInt32)) (g4 := (((la (4 : Int32).toNatClampNeg + nu (3 : Int32).toNatClampNeg) : Int64).toInt32)) (g5 := (((la (5 : Int32).toNatClampNeg + nu (4 : Int32).toNatClampNeg) : Int64).toInt32)) (x3 := (((la (3 : Int32).toNatClampNeg + nu (2 : Int32).toNatClampNeg) : Int64).toInt32)) (x4 := (((la (4 : Int32).toNatClampNeg + nu (3 : Int32).toNatClampNeg) : Int64).toInt32)) hff hA hss hW hL ?_
        rcases hg with ⟨e1, e2⟩ | ⟨e1, e2⟩
        · refine Or.inl ⟨e1, ?_⟩
          by_cases c0 : (lg_cmp (nu (0 : Int32).toNatClampNeg) 0) < 0
          · exact up_0 S (Or.inl (by rw [hY0]; exact c0))
          · by_cases c1 : (lg_cmp (la (1 : Int32).toNatClampNeg + nu (0 : Int32).toNatClampNeg) 999999) ≤ 0
            · rcases up_5 S hn (by rw [hY0]; exact c0) (by rw [hX0]; exact c1) with u | u
              · rw [hX1, hX2, hX3, hX4] at u
                have e3 := (e2.resolve_left c0).resolve_left (fun q => q c1)
                exact absurd e3 (fun q => by rcases q with q | q | q | q; exact u.1 q; exact u.2.1 q; exact u.2.2.1 q; exact u.2.2.2.1 q)
              · exact u.2
            · exact up_0 S (Or.inr (by rw [hX0]; exact c1))
        · obtain ⟨c0, c1, w1, w2, w3, w4⟩ := e2
          have hc := col_in ha0 hb0 y0a y0b c0 c1
          refine Or.inr ⟨e1, ?_, hc.1, hc.2, Or.inr ⟨inb2 w1, inb6 w2, inb6 w3⟩, Or.inr (inb2 w4), rfl, fun _ => ⟨rfl, rfl⟩⟩
          rcases up_5 S hn (by rw [hY0]; exact c0) (by rw [hX0]; exact c1) with u | u
          · rw [u.2.2.2.2, hX0, hX1, hX2, hX3, hX4]
          · rw [hX1, hX2, hX3, hX4] at u
            exact absurd u.1 (fun q => by rcases q with q | q | q | q; exact w1 q; exact w2 q; exact w3 q; exact w4 q)
      · have hno := s_as_no S (fun q => h1 (hnc.symm.trans q)) (fun q => h4 (hnc.symm.trans q)) (fun q => h5 (hnc.symm.trans q))
        unfold SegOut fX9_segment
        simp only [bnd, fX9_fails]
        rw [if_neg h1, if_neg h4, if_neg h5]
        exact Or.inl ⟨rfl, nz3, hno.1, hno.2.trans hss⟩
