def PA (D : RS) (bt tp dr : Nat → Int32) (nu la : Nat → Int64) (ln th dc tl xl fo fa mn ft wl : Int32) (lim : Int) : Prop := ∀ (pp foz faz dcz mnz : Int32) (drz : Nat → Int32) (nuz laz : Nat → Int64) (S : RS) (m n : Nat), ln.toInt - pp.toInt ≤ lim → 0 ≤ pp.toInt → pp.toInt ≤ ln.toInt → R0 S laz dcz drz → s_nc S = 0 → s_ib S = 0 → 8 * (ln.toInt - pp.toInt) + 7 < m → ln.toInt - pp.toInt < n → ROut foz (s_rt D bt ln n pp S) (fX9_readAll_A th dc tl xl fo fa mn ft wl dr tp nu la ln m 28 pp 0 0 dcz drz foz faz mnz nuz laz)
def PB (D : RS) (bt tp dr : Nat → Int32) (nu la : Nat → Int64) (ln th dc tl xl fo fa mn ft wl : Int32) (lim : Int) : Prop := ∀ (pp foz faz dcz mnz : Int32) (drz : Nat → Int32) (nuz laz : Nat → Int64) (S : RS) (m n : Nat), ln.toInt - pp.toInt ≤ lim → 0 ≤ pp.toInt → pp.toInt ≤ ln.toInt → R0 S laz dcz drz → s_nc S = 0 → ¬ s_ib S = 0 → 8 * (ln.toInt - pp.toInt) + 6 < m → ln.toInt - pp.toInt < n → ROut foz (s_rt D bt ln n pp S) (fX9_readAll_A th dc tl xl fo fa mn ft wl dr tp nu la ln m 89 pp 1 0 dcz drz foz faz mnz nuz laz)
def PC (D : RS) (bt tp dr : Nat → Int32) (nu la : Nat → Int64) (ln th dc tl xl fo fa mn ft wl : Int32) (lim : Int) : Prop := ∀ (fs : Int32) (pp foz faz dcz mnz : Int32) (drz : Nat → Int32) (nuz laz : Nat → Int64) (S : RS) (m n : Nat), ln.toInt - pp.toInt ≤ lim → 0 ≤ pp.toInt → pp.toInt ≤ ln.toInt → R0 S laz dcz drz → s_nc S = mnz → 0 ≤ fs.toInt → fs.toInt ≤ pp.toInt → (pp.toInt = fs.toInt → mnz = 0 ∧ pp.toInt < ln.toInt ∧ ¬ tp pp.toNatClampNeg = 44 ∧ ¬ tp pp.toNatClampNeg = 59) → (fs.toInt < pp.toInt → 1 ≤ mnz.toInt ∧ s_ss S = fs) → 0 ≤ mnz.toInt → mnz.toInt ≤ pp.toInt → NB S mnz nuz → (pp.toInt = fs.toInt → 8 * (ln.toInt - pp.toInt) + 5 < m) → (fs.toInt < pp.toInt → 8 * (ln.toInt - pp.toInt) + 12 < m) → ln.toInt - pp.toInt < n → ROut foz (s_rt D bt ln n pp S) (fX9_readAll_A th dc tl xl fo fa mn ft wl dr tp nu la ln m 135 pp 0 fs dcz drz foz faz mnz nuz laz)
set_option maxHeartbeats 4000000 in
theorem s_C {D : RS} {bt tp dr : Nat → Int32} {nu la : Nat → Int64} {ln th dc tl xl fo fa mn ft wl : Int32} (ht : TapeEq ln bt tp) (hl1 : ln.toInt ≤ 3000) {lim : Int} (ihC : PC D bt tp dr nu la ln th dc tl xl fo fa mn ft wl (lim - 1)) (ihA : PA D bt tp dr nu la ln th dc tl xl fo fa mn ft wl (lim - 1)) (ihB : PB D bt tp dr nu la ln th dc tl xl fo fa mn ft wl (lim - 1)) : PC D bt tp dr nu la ln th dc tl xl fo fa mn ft wl lim := by
  intro fs pp foz faz dcz mnz drz nuz laz S m n hlim h0 hpl hR hnc hf0 hf1 hst hgo hm0 hm1 hnb hfu1 hfu2 hn
  obtain ⟨hff, hn0, hA, hW, hL⟩ := id hR
  obtain ⟨m1, rfl⟩ : ∃ m1, m = m1 + 1 := ⟨m - 1, by by_cases q : pp.toInt = fs.toInt; have := hfu1 q; omega; have := hfu2 (by omega); omega⟩
  obtain ⟨n1, rfl⟩ : ∃ n1, n = n1 + 1 := ⟨n - 1, by omega⟩
  rw [fX9_readAll_A, if_neg (by decide), if_neg (by decide)]
  simp only [bnd, fX9_fails]
  have hseg : 1 ≤ mnz.toInt → s_ss S = fs → SegOut S foz faz (fX9_segment th dcz tl xl foz faz mnz ft wl drz nuz laz fs) (s_as S) := fun a b => s_seg hff hA hnc a hnb b hW hL
  have hncp : 1 ≤ mnz.toInt → ¬ s_nc S ≤ 0 := fun a q => by rw [hnc] at q; have := i_le q; rw [Int32.toInt_zero] at this; omega
  by_cases c1 : ln ≤ pp
  · rw [if_pos c1]
    have c1 := i_le c1
    have hlt : fs.toInt < pp.toInt := by
      by_cases q : pp.toInt = fs.toInt
      · have := (hst q).2.1; omega
      · omega
    have hg := hgo hlt
    have hs := hseg hg.1 hg.2
    have hfu := hfu2 hlt
    have hcl : s_rt D bt ln (n1 + 1) pp S = s_fin S (0, s_as S) := by rw [s_rt_end c1 hff, s_es_add S 0 ln hn0 (hncp hg.1)]
    rw [hcl]
    generalize fX9_segment th dcz tl xl foz faz mnz ft wl drz nuz laz fs = w at hs ⊢
    rcases hs with ⟨k1, k2, k3, k4⟩ | ⟨k1, k2, k3, k4, k5, k6, k7⟩
    · rw [if_pos k1]
      exact Or.inl ⟨rfl, by show ¬ (s_as S).1 = 0; rw [k3]; exact k2, k3, k4⟩
    · rw [if_neg (by rw [k1]; exact nz1)]
      obtain ⟨m2, rfl⟩ : ∃ m2, m1 = m2 + 1 := ⟨m1 - 1, by omega⟩
      obtain ⟨m3, rfl⟩ : ∃ m3, m2 = m3 + 1 := ⟨m2 - 1, by omega⟩
      rw [fX9_readAll_A, if_neg (by decide), if_pos rfl, if_pos rfl, fX9_readAll_A, if_pos rfl, if_pos (Int32.le_iff_toInt_le.mpr c1)]
      exact Or.inr ⟨rfl, k4, k2, k5.2.2.2.2.2.2.1, k6⟩
  · rw [if_neg c1]
    have c1 := i_nle c1
    have e1 : (pp + 1).toInt = pp.toInt + 1 := by rw [ti_add (by rw [show (1 : Int32).toInt = 1 from by decide]; omega) (by rw [show (1 : Int32).toInt = 1 from by decide]; omega), show (1 : Int32).toInt = 1 from by decide]
    obtain ⟨n2, rfl⟩ : ∃ n2, n1 = n2 + 1 := ⟨n1 - 1, by omega⟩
    have hb := ht pp.toNatClampNeg (by show ((pp.toInt.toNat : Nat) : Int) < ln.toInt; omega)
    have hch := s_chk hb.2.1 hb.2.2
    have hgo9 := s_rt_go (D := D) (n := n2 + 1) ht h0 c1 hff
    by_cases c2 : tp pp.toNatClampNeg = 44
    · rw [if_pos c2]
      have hlt : fs.toInt < pp.toInt := by
        by_cases q : pp.toInt = fs.toInt
        · exact absurd c2 (hst q).2.2.1
        · omega
      have hg := hgo hlt
      have hs := hseg hg.1 hg.2
      have hfu := hfu2 hlt
      have hcl : s_rt D bt ln (n2 + 1 + 1) pp S = s_rt D bt ln (n2 + 1) (pp + 1) (s_com S (0, s_as S)) := by rw [hgo9, hch.2.1.mpr c2, s_tk_com, s_es_add S 1 pp hn0 (hncp hg.1)]
      rw [hcl]
      generalize fX9_segment th dcz tl xl foz faz mnz ft wl drz nuz laz fs = w at hs ⊢
      rcases hs with ⟨k1, k2, k3, k4⟩ | ⟨k1, k2, k3, k4, k5, k6, k7⟩
      · rw [if_pos k1, s_rt_ff _ _ _ _ _ _ (show ¬ (s_as S).1 = 0 by rw [k3]; exact k2)]
        exact Or.inl ⟨rfl, by show ¬ (s_as S).1 = 0; rw [k3]; exact k2, k3, k4⟩
      · rw [if_neg (by rw [k1]; exact nz1), k2, k3]
        exact ihB (pp + 1) foz faz w.2.1 mnz w.2.2.2.2.1 nuz w.2.2.2.2.2 (s_com S (0, s_as S)) m1 (n2 + 1) (by omega) (by omega) (by omega) ⟨k4, hn0, k5, k6, k7⟩ rfl nz1 (by omega) (by omega)
    · rw [if_neg c2]
      by_cases c3 : tp pp.toNatClampNeg = 59
      · rw [if_pos c3]
        have hlt : fs.toInt < pp.toInt := by
          by_cases q : pp.toInt = fs.toInt
          · exact absurd c3 (hst q).2.2.2
          · omega
        have hg := hgo hlt
        have hs := hseg hg.1 hg.2
        have hfu := hfu2 hlt
        have hcl : s_rt D bt ln (n2 + 1 + 1) pp S = s_rt D bt ln (n2 + 1) (pp + 1) (s_sem S (0, s_as S) (fX2_startLine 0 (s_ss S) 0 (s_li S) (s_as S).1 (s_as S).2.1 (s_as S).2.2.1 (s_as S).2.2.2.1 (s_as S).2.2.2.2.1 (s_as S).2.2.2.2.2.1 (s_as S).2.2.2.2.2.2.1 pp)) := by
          rw [hgo9, hch.2.2.1.mpr c3, s_tk_sem S pp _ rfl, s_es_add S 0 pp hn0 (hncp hg.1)]
        rw [hcl]
        generalize fX9_segment th dcz tl xl foz faz mnz ft wl drz nuz laz fs = w at hs ⊢
        rcases hs with ⟨k1, k2, k3, k4⟩ | ⟨k1, k2, k3, k4, k5, k6, k7⟩
        · have k9 : ¬ (s_as S).1 = 0 := by rw [k3]; exact k2
          have hsl : fX2_startLine 0 (s_ss S) 0 (s_li S) (s_as S).1 (s_as S).2.1 (s_as S).2.2.1 (s_as S).2.2.2.1 (s_as S).2.2.2.2.1 (s_as S).2.2.2.2.2.1 (s_as S).2.2.2.2.2.2.1 pp = (s_li S, (s_as S).1, (s_as S).2.1, (s_as S).2.2.1) := by
            unfold fX2_startLine
            rw [if_neg k9]
          rw [hsl, if_pos k1, s_rt_ff _ _ _ _ _ _ (show ¬ (s_as S).1 = 0 from k9)]
          exact Or.inl ⟨rfl, k9, k3, k4⟩
        · rw [if_neg (by rw [k1]; exact nz1), k2, k3]
          obtain ⟨m2, rfl⟩ : ∃ m2, m1 = m2 + 1 := ⟨m1 - 1, by omega⟩
          obtain ⟨m3, rfl⟩ : ∃ m3, m2 = m3 + 1 := ⟨m2 - 1, by omega⟩
          rw [fX9_readAll_A, if_neg (by decide), if_pos rfl, if_pos rfl, fX9_readAll_A, if_pos rfl, if_neg (fun q => by have := i_le q; omega), if_pos c3]
          simp only [bnd, fX9_fails]
          rcases line_up (k := pp) k5 k4 0 (s_ss S) 0 with ⟨u1, u2⟩ | ⟨u1, u2, u3, u4⟩
          · rw [if_pos u1, u2, s_rt_ff _ _ _ _ _ _ (show ¬ (5 : Int32) = 0 from nz5)]
            exact Or.inl ⟨rfl, nz5, rfl, rfl⟩
          · rw [if_neg u1, u2]
            refine ihA (pp + 1) foz faz w.2.1 mnz w.2.2.2.2.1 nuz _ _ m3 (n2 + 1) (by omega) (by omega) (by omega) ⟨rfl, hn0, u3, k6, ?_⟩ rfl rfl (by omega) (by omega)
            intro j hj
            have q := k7 j hj
            left
            show ((s_as S).2.2.2.2.2.2.2.2.2.2.2.2.2.2.1 j).toInt < (s_li S + 1).toInt
            rw [u4]
            omega
      · rw [if_neg c3]
        have hnum := s_number (D := D) (bt := bt) (tp := tp) (ln := ln) (th := th) (dc := dcz) (tl := tl) (xl := xl) (fo := foz) (fa := faz) (mn := mnz) (ft := ft) (wl := wl) (x := pp) (nu := nuz) ht hl1 h0 3002 0 0 0 pp S hff (by decide) (Or.inl ⟨hn0, rfl, rfl, rfl, rfl⟩) (fun _ => ⟨c1, c2, c3⟩) (by decide) (by decide) (by rw [Int32.toInt_zero]; omega) (Int.le_refl _) hpl hnc (by omega) (n2 + 1 + 1) (by omega) _ rfl
        have hnu : fX9_number th dcz tl xl foz faz mnz ft wl tp nuz pp ln = fX9_number_14 th dcz tl xl foz faz mnz ft wl tp nuz pp ln 3002 0 0 0 pp 1 := rfl
        rw [hnu]
        generalize fX9_number_14 th dcz tl xl foz faz mnz ft wl tp nuz pp ln 3002 0 0 0 pp 1 = w at hnum ⊢
        rcases hnum with ⟨k1, k2, k3, k4⟩ | ⟨k1, k2, k3, k4, k5, z, n', S', k6, k7, k8, k9, k10, k11, k12, k13, k14⟩
        · rw [if_neg (by rw [k1]; decide)]
          exact Or.inl ⟨rfl, by rw [k3]; exact k2, k3, k4⟩
        · rw [if_pos (Int32.le_iff_toInt_le.mpr (by rw [Int32.toInt_zero]; omega)), k3, k4, k5, k7]
          have ha : s_core S' = s_core S := k8
          simp only [s_core, Prod.mk.injEq] at ha
          obtain ⟨x0, x1, x2, x3, x4, x5, x6, x7, x8, x9, x10, x11, x12, x13, x14⟩ := ha
          have em : (mnz + 1).toInt = mnz.toInt + 1 := by rw [ti_add (by rw [show (1 : Int32).toInt = 1 from by decide]; omega) (by rw [show (1 : Int32).toInt = 1 from by decide]; omega), show (1 : Int32).toInt = 1 from by decide]
          have hlf : fs.toInt < w.1.toInt := by omega
          refine ihC fs w.1 foz faz dcz (mnz + 1) drz w.2.2.2.2 laz S' m1 n' (by omega) (by omega) k2 ⟨by rw [x2]; exact hff, k9, by rw [x1, x3, x4, x5, x6, x7, x8]; exact hA, by rw [x8, x9, x10, x11, x12, x13, x14]; exact hW, by rw [x8, x9, x10, x1, x3]; exact hL⟩ k10 hf0 (by omega) (fun q => absurd q (by omega)) (fun _ => ⟨by omega, ?_⟩) (by omega) (by omega) ?_ (fun q => absurd q (by omega)) (fun _ => ?_) k6
          · rw [k13]
            by_cases b5 : mnz = 0
            · rw [if_pos b5]
              by_cases q : pp.toInt = fs.toInt
              · exact Int32.toInt_inj.mp q
              · have := (hgo (by omega)).1; rw [b5] at this; exact absurd this (by decide)
            · rw [if_neg b5]
              by_cases q : pp.toInt = fs.toInt
              · exact absurd (hst q).1 b5
              · exact (hgo (by omega)).2
          · intro j hj5 hj
            rw [em] at hj
            rw [k11, k12]
            have ed : (mnz.toNatClampNeg : Int) = mnz.toInt := by show ((mnz.toInt.toNat : Nat) : Int) = mnz.toInt; omega
            by_cases b5 : (5 : Int32) ≤ mnz
            · rw [if_pos b5]
              have b5 := i_le b5
              rw [show (5 : Int32).toInt = 5 from by decide] at b5
              have old := hnb j hj5 (by omega)
              by_cases b6 : (6 : Int32) ≤ mnz
              · rw [if_pos b6]; exact old
              · rw [if_neg b6]
                unfold vp_updL
                rw [if_neg (by omega)]
                exact old
            · rw [if_neg b5]
              have b5 := i_nle b5
              rw [show (5 : Int32).toInt = 5 from by decide] at b5
              rw [if_neg (fun q => by have := i_le q; rw [show (6 : Int32).toInt = 6 from by decide] at this; omega)]
              unfold vp_updL
              by_cases q : j = mnz.toNatClampNeg
              · rw [if_pos q, if_pos q]; exact ⟨rfl, k14⟩
              · rw [if_neg q, if_neg q]; exact hnb j hj5 (by omega)
          · by_cases q : pp.toInt = fs.toInt
            · have := hfu1 q; omega
            · have := hfu2 (by omega); omega
