set_option maxHeartbeats 4000000 in
theorem s_A {D : RS} {bt tp dr : Nat → Int32} {nu la : Nat → Int64} {ln th dc tl xl fo fa mn ft wl : Int32} (ht : TapeEq ln bt tp) (hl1 : ln.toInt ≤ 3000) {lim : Int} (hC : PC D bt tp dr nu la ln th dc tl xl fo fa mn ft wl lim) (ihA : PA D bt tp dr nu la ln th dc tl xl fo fa mn ft wl (lim - 1)) : PA D bt tp dr nu la ln th dc tl xl fo fa mn ft wl lim := by
  intro pp foz faz dcz mnz drz nuz laz S m n hlim h0 hpl hR hnc hib hm hn
  obtain ⟨hff, hn0, hA, hW, hL⟩ := id hR
  obtain ⟨m1, rfl⟩ : ∃ m1, m = m1 + 1 := ⟨m - 1, by omega⟩
  obtain ⟨n1, rfl⟩ : ∃ n1, n = n1 + 1 := ⟨n - 1, by omega⟩
  rw [fX9_readAll_A, if_pos rfl]
  simp only [bnd, fX9_fails]
  by_cases c1 : ln ≤ pp
  · rw [if_pos c1, s_rt_end (i_le c1) hff, s_es_none S ln hn0 hnc hib]
    exact Or.inr ⟨rfl, hff, rfl, hA.2.2.2.2.2.2.1, hW⟩
  · rw [if_neg c1]
    have c1 := i_nle c1
    have e1 : (pp + 1).toInt = pp.toInt + 1 := by rw [ti_add (by rw [show (1 : Int32).toInt = 1 from by decide]; omega) (by rw [show (1 : Int32).toInt = 1 from by decide]; omega), show (1 : Int32).toInt = 1 from by decide]
    obtain ⟨n2, rfl⟩ : ∃ n2, n1 = n2 + 1 := ⟨n1 - 1, by omega⟩
    have hb := ht pp.toNatClampNeg (by show ((pp.toInt.toNat : Nat) : Int) < ln.toInt; omega)
    have hch := s_chk hb.2.1 hb.2.2
    have hgo9 := s_rt_go (D := D) (n := n2 + 1) ht h0 c1 hff
    by_cases c3 : tp pp.toNatClampNeg = 59
    · rw [if_pos c3]
      have hcl : s_rt D bt ln (n2 + 1 + 1) pp S = s_rt D bt ln (n2 + 1) (pp + 1) (s_sem S (0, (s_ff S, s_fp S, s_a0 S, s_a1 S, s_a2 S, s_a3 S, s_a4 S, s_g0 S, s_g1 S, s_g2 S, s_g3 S, s_g4 S, s_g5 S, s_cn S, s_t0 S, s_t1 S, s_t2 S, s_t3 S, s_t4 S, s_t5 S)) (fX2_startLine 0 (s_ss S) 0 (s_li S) (s_ff S) (s_fp S) (s_a0 S) (s_a1 S) (s_a2 S) (s_a3 S) (s_a4 S) pp)) := by
        rw [hgo9, hch.2.2.1.mpr c3, s_tk_sem S pp _ rfl, s_es_none S pp hn0 hnc hib]
      rw [hcl]
      rcases line_up (S := S) (r := (s_ff S, s_fp S, s_a0 S, s_a1 S, s_a2 S, s_a3 S, s_a4 S, s_g0 S, s_g1 S, s_g2 S, s_g3 S, s_g4 S, s_g5 S, s_cn S, s_t0 S, s_t1 S, s_t2 S, s_t3 S, s_t4 S, s_t5 S)) (k := pp) hA hff 0 (s_ss S) 0 with ⟨u1, u2⟩ | ⟨u1, u2, u3, u4⟩
      · have u2 : fX2_startLine 0 (s_ss S) 0 (s_li S) (s_ff S) (s_fp S) (s_a0 S) (s_a1 S) (s_a2 S) (s_a3 S) (s_a4 S) pp = (s_li S, 5, pp, s_a0 S) := u2
        rw [if_pos u1, u2, s_rt_ff _ _ _ _ _ _ (show ¬ (5 : Int32) = 0 from nz5)]
        exact Or.inl ⟨rfl, nz5, rfl, rfl⟩
      · have u2 : fX2_startLine 0 (s_ss S) 0 (s_li S) (s_ff S) (s_fp S) (s_a0 S) (s_a1 S) (s_a2 S) (s_a3 S) (s_a4 S) pp = (s_li S + 1, 0, s_fp S, 0) := u2
        rw [if_neg u1, u2]
        refine ihA (pp + 1) foz faz dcz mnz drz nuz _ _ m1 (n2 + 1) (by omega) (by omega) (by omega) ⟨rfl, hn0, u3, hW, ?_⟩ rfl rfl (by omega) (by omega)
        intro j hj
        have q := hL j hj
        left
        show (s_t0 S j).toInt < (s_li S + 1).toInt
        rw [u4]
        omega
    · rw [if_neg c3]
      obtain ⟨m2, rfl⟩ : ∃ m2, m1 = m2 + 1 := ⟨m1 - 1, by omega⟩
      rw [fX9_readAll_A, if_neg (by decide), if_pos rfl, if_neg nz1, if_neg (fun q => by rw [q] at c1; omega)]
      simp only [bnd, fX9_fails]
      by_cases c2 : tp pp.toNatClampNeg = 44
      · rw [if_pos c2, hgo9, hch.2.1.mpr c2, s_tk_com, s_es_ref S 1 pp hn0 hnc (Or.inl nz1), s_rt_ff _ _ _ _ _ _ (show ¬ (3 : Int32) = 0 from nz3)]
        exact Or.inl ⟨rfl, nz3, rfl, rfl⟩
      · rw [if_neg c2, if_neg c3]
        exact hC pp pp foz faz dcz 0 drz nuz laz S m2 (n2 + 1 + 1) hlim h0 hpl hR hnc h0 (Int.le_refl _) (fun _ => ⟨rfl, c1, c2, c3⟩) (fun q => absurd q (by omega)) (by decide) (by rw [Int32.toInt_zero]; exact h0) (fun j _ hj => absurd hj (by rw [Int32.toInt_zero]; omega)) (fun _ => by omega) (fun q => absurd q (by omega)) hn
set_option maxHeartbeats 4000000 in
theorem s_B {D : RS} {bt tp dr : Nat → Int32} {nu la : Nat → Int64} {ln th dc tl xl fo fa mn ft wl : Int32} (ht : TapeEq ln bt tp) (hl1 : ln.toInt ≤ 3000) {lim : Int} (hC : PC D bt tp dr nu la ln th dc tl xl fo fa mn ft wl lim) : PB D bt tp dr nu la ln th dc tl xl fo fa mn ft wl lim := by
  intro pp foz faz dcz mnz drz nuz laz S m n hlim h0 hpl hR hnc hib hm hn
  obtain ⟨hff, hn0, hA, hW, hL⟩ := id hR
  obtain ⟨m1, rfl⟩ : ∃ m1, m = m1 + 1 := ⟨m - 1, by omega⟩
  obtain ⟨n1, rfl⟩ : ∃ n1, n = n1 + 1 := ⟨n - 1, by omega⟩
  rw [fX9_readAll_A, if_neg (by decide), if_pos rfl, if_neg nz1]
  simp only [bnd, fX9_fails]
  by_cases c1 : pp = ln
  · rw [if_pos c1, s_rt_end (by rw [c1]; exact Int.le_refl _) hff, s_es_ref S 0 ln hn0 hnc (Or.inr hib)]
    exact Or.inl ⟨rfl, nz3, rfl, c1.symm⟩
  · rw [if_neg c1]
    have c1 : pp.toInt < ln.toInt := by have := i_ne c1; omega
    obtain ⟨n2, rfl⟩ : ∃ n2, n1 = n2 + 1 := ⟨n1 - 1, by omega⟩
    have hb := ht pp.toNatClampNeg (by show ((pp.toInt.toNat : Nat) : Int) < ln.toInt; omega)
    have hch := s_chk hb.2.1 hb.2.2
    have hgo9 := s_rt_go (D := D) (n := n2 + 1) ht h0 c1 hff
    by_cases c2 : tp pp.toNatClampNeg = 44
    · rw [if_pos c2, hgo9, hch.2.1.mpr c2, s_tk_com, s_es_ref S 1 pp hn0 hnc (Or.inl nz1), s_rt_ff _ _ _ _ _ _ (show ¬ (3 : Int32) = 0 from nz3)]
      exact Or.inl ⟨rfl, nz3, rfl, rfl⟩
    · rw [if_neg c2]
      by_cases c3 : tp pp.toNatClampNeg = 59
      · have hq : s_tk S 59 pp = _ := s_tk_sem S pp _ rfl
        rw [s_es_ref S 0 pp hn0 hnc (Or.inr hib)] at hq
        unfold fX2_startLine at hq
        rw [if_neg (show ¬ (3 : Int32) = 0 from nz3)] at hq
        rw [if_pos c3, hgo9, hch.2.2.1.mpr c3, hq, s_rt_ff _ _ _ _ _ _ (show ¬ (3 : Int32) = 0 from nz3)]
        exact Or.inl ⟨rfl, nz3, rfl, rfl⟩
      · rw [if_neg c3]
        exact hC pp pp foz faz dcz 0 drz nuz laz S m1 (n2 + 1 + 1) hlim h0 hpl hR hnc h0 (Int.le_refl _) (fun _ => ⟨rfl, c1, c2, c3⟩) (fun q => absurd q (by omega)) (by decide) (by rw [Int32.toInt_zero]; exact h0) (fun j _ hj => absurd hj (by rw [Int32.toInt_zero]; omega)) (fun _ => by omega) (fun q => absurd q (by omega)) hn
theorem s_every {D : RS} {bt tp dr : Nat → Int32} {nu la : Nat → Int64} {ln th dc tl xl fo fa mn ft wl : Int32} (ht : TapeEq ln bt tp) (hl1 : ln.toInt ≤ 3000) : ∀ d : Nat, PC D bt tp dr nu la ln th dc tl xl fo fa mn ft wl ((d : Int) - 1) ∧ PA D bt tp dr nu la ln th dc tl xl fo fa mn ft wl ((d : Int) - 1) ∧ PB D bt tp dr nu la ln th dc tl xl fo fa mn ft wl ((d : Int) - 1) := by
  intro d
  induction d with
  | zero =>
    refine ⟨?_, ?_, ?_⟩
    · intro fs pp foz faz dcz mnz drz nuz laz S m n hlim h0 hpl; exact absurd hlim (by omega)
    · intro pp foz faz dcz mnz drz nuz laz S m n hlim h0 hpl; exact absurd hlim (by omega)
    · intro pp foz faz dcz mnz drz nuz laz S m n hlim h0 hpl; exact absurd hlim (by omega)
  | succ d ih =>
    obtain ⟨i1, i2, i3⟩ := ih
    have e : (((d + 1 : Nat) : Int) - 1) - 1 = (d : Int) - 1 := by omega
    have hC := s_C (lim := ((d + 1 : Nat) : Int) - 1) ht hl1 (by rw [e]; exact i1) (by rw [e]; exact i2) (by rw [e]; exact i3)
    exact ⟨hC, s_A ht hl1 hC (by rw [e]; exact i2), s_B ht hl1 hC⟩
theorem rdt_eq {nc ss ib li ff fp n0 n1 : Int32} {n2 : Int64} {n3 n4 : Int32} {nb : Nat → Int64} {a0 a1 a2 a3 a4 g0 g1 g2 g3 g4 g5 cn : Int32} {t0 t1 t2 t3 t4 t5 : Nat → Int32} {bt : Nat → Int32} {ln : Int32} (N : Nat) : (bnd (fX2_start nc ss ib li ff fp n0 n1 n2 n3 n4 a0 a1 a2 a3 a4 cn) fun r_74 =>
  fX2_readTape_6 nc ss ib li ff fp n0 n1 n2 n3 n4 nb a0 a1 a2 a3 a4 g0 g1 g2 g3 g4 g5 cn t0 t1 t2 t3 t4 t5 bt ln N 0 r_74.1 r_74.2.1 r_74.2.2.1 r_74.2.2.2.1 r_74.2.2.2.2.1 r_74.2.2.2.2.2.1 r_74.2.2.2.2.2.2.1 n1 n2 n3 n4 nb r_74.2.2.2.2.2.2.2.1 r_74.2.2.2.2.2.2.2.2.1 r_74.2.2.2.2.2.2.2.2.2.1 r_74.2.2.2.2.2.2.2.2.2.2.1 r_74.2.2.2.2.2.2.2.2.2.2.2.1 g0 g1 g2 g3 g4 g5 r_74.2.2.2.2.2.2.2.2.2.2.2.2 t0 t1 t2 t3 t4 t5) = s_rt (nc, ss, ib, li, ff, fp, n0, n1, n2, n3, n4, nb, a0, a1, a2, a3, a4, g0, g1, g2, g3, g4, g5, cn, t0, t1, t2, t3, t4, t5) bt ln N 0 (0, 0, 0, 0, 0, 0, 0, n1, n2, n3, n4, nb, 0, 0, 0, 0, 0, g0, g1, g2, g3, g4, g5, 0, t0, t1, t2, t3, t4, t5) := rfl
theorem b6_0 : B6 0 := ⟨by decide, by decide⟩
theorem b2_0 : B2 0 := ⟨by decide, by decide⟩
/-- the class's reading of a tape, and the reference's of the same bytes: one outcome -/
theorem rd_sim {nc ss ib li ff fp n0 n1 : Int32} {n2 : Int64} {n3 n4 : Int32} {nb : Nat → Int64} {a0 a1 a2 a3 a4 g0 g1 g2 g3 g4 g5 cn : Int32} {t0 t1 t2 t3 t4 t5 : Nat → Int32} {bt tp dr : Nat → Int32} {nu la : Nat → Int64} {ln th dc tl xl fo fa mn ft wl : Int32} (ht : TapeEq ln bt tp) (hl0 : 0 ≤ ln.toInt) (hl1 : ln.toInt ≤ 3000) : ROut fo (fX2_readTape nc ss ib li ff fp n0 n1 n2 n3 n4 nb a0 a1 a2 a3 a4 g0 g1 g2 g3 g4 g5 cn t0 t1 t2 t3 t4 t5 bt ln) (fX9_readAll th dc tl xl fo fa mn ft wl dr tp nu la ln) := by
  have h1 : fX2_readTape nc ss ib li ff fp n0 n1 n2 n3 n4 nb a0 a1 a2 a3 a4 g0 g1 g2 g3 g4 g5 cn t0 t1 t2 t3 t4 t5 bt ln = s_rt (nc, ss, ib, li, ff, fp, n0, n1, n2, n3, n4, nb, a0, a1, a2, a3, a4, g0, g1, g2, g3, g4, g5, cn, t0, t1, t2, t3, t4, t5) bt ln 3001 0 (0, 0, 0, 0, 0, 0, 0, n1, n2, n3, n4, nb, 0, 0, 0, 0, 0, g0, g1, g2, g3, g4, g5, 0, t0, t1, t2, t3, t4, t5) := by
    unfold fX2_readTape
    exact rdt_eq 3001
  have h2 : fX9_readAll th dc tl xl fo fa mn ft wl dr tp nu la ln = fX9_readAll_A th dc tl xl fo fa mn ft wl dr tp nu la ln 24100 28 0 0 0 0 dr fo fa mn nu (vp_updL (vp_updL (vp_updL (vp_updL (vp_updL (vp_updL la 0 0) 1 0) 2 0) 3 0) 4 0) 5 0) := by
    unfold fX9_readAll
    rw [show (7 : Nat) = 0 + 1 + 1 + 1 + 1 + 1 + 1 + 1 from rfl]
    rw [fX9_readAll_7, if_neg (by decide), fX9_readAll_7, if_neg (by decide), fX9_readAll_7, if_neg (by decide), fX9_readAll_7, if_neg (by decide), fX9_readAll_7, if_neg (by decide), fX9_readAll_7, if_neg (by decide), fX9_readAll_7, if_pos (by decide)]
    exact congrArg (fX9_readAll_A th dc tl xl fo fa mn ft wl dr tp nu la ln 24100 28 0 0 0 0 dr fo fa mn nu) (show _ = (vp_updL (vp_updL (vp_updL (vp_updL (vp_updL (vp_updL la 0 0) 1 0) 2 0) 3 0) 4 0) 5 0) from rfl)
  rw [h1, h2]
  have hA := (s_every (D := (nc, ss, ib, li, ff, fp, n0, n1, n2, n3, n4, nb, a0, a1, a2, a3, a4, g0, g1, g2, g3, g4, g5, cn, t0, t1, t2, t3, t4, t5)) (bt := bt) (tp := tp) (dr := dr) (nu := nu) (la := la) (ln := ln) (th := th) (dc := dc) (tl := tl) (xl := xl) (fo := fo) (fa := fa) (mn := mn) (ft := ft) (wl := wl) ht hl1 3001).2.1
  refine hA 0 fo fa 0 mn dr nu _ (0, 0, 0, 0, 0, 0, 0, n1, n2, n3, n4, nb, 0, 0, 0, 0, 0, g0, g1, g2, g3, g4, g5, 0, t0, t1, t2, t3, t4, t5) 24100 3001 (by rw [Int32.toInt_zero]; omega) (by decide) (by rw [Int32.toInt_zero]; exact hl0) ⟨rfl, rfl, ?_, ?_, ?_⟩ rfl rfl (by rw [Int32.toInt_zero]; omega) (by rw [Int32.toInt_zero]; omega)
  · exact ⟨⟨rfl, L9_0⟩, ⟨rfl, b6_0⟩, ⟨rfl, b2_0⟩, ⟨rfl, b6_0⟩, ⟨rfl, b6_0⟩, ⟨rfl, b2_0⟩, rfl, by decide, by decide⟩
  · intro j hj
    exact absurd (show (j : Int) < (0 : Int32).toInt from hj) (by rw [Int32.toInt_zero]; omega)
  · intro j hj
    exact absurd (show (j : Int) + 1 = (0 : Int32).toInt from hj) (by rw [Int32.toInt_zero]; omega)
