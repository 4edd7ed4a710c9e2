theorem nz1 : ¬ (1 : Int32) = 0 := by decide
theorem nz2 : ¬ (2 : Int32) = 0 := by decide
theorem nz3 : ¬ (3 : Int32) = 0 := by decide
theorem nz4 : ¬ (4 : Int32) = 0 := by decide
theorem nz5 : ¬ (5 : Int32) = 0 := by decide
theorem s_rt_ff (D : RS) (bt : Nat → Int32) (ln : Int32) (n : Nat) (k : Int32) (S : RS) (h : ¬ s_ff S = 0) : s_rt D bt ln (n + 1) k S = S := by
  rw [s_rt_succ]
  by_cases c : ln ≤ k
  · rw [if_pos c, if_neg h]
  · rw [if_neg c, if_neg h]
theorem s_rt_go {D : RS} {bt tp : Nat → Int32} {ln k : Int32} {n : Nat} {S : RS} (ht : TapeEq ln bt tp) (h0 : 0 ≤ k.toInt) (hk : k.toInt < ln.toInt) (hff : s_ff S = 0) : s_rt D bt ln (n + 1) k S = s_rt D bt ln n (k + 1) (s_tk S (s_ch (tp k.toNatClampNeg)) k) := by
  have hb := ht k.toNatClampNeg (by show ((k.toInt.toNat : Nat) : Int) < ln.toInt; omega)
  have hca : fX5_characterAt bt ln k = s_ch (tp k.toNatClampNeg) := by unfold fX5_characterAt s_ch; rw [hb.1]
  rw [s_rt_succ, if_neg (fun q => by have := i_le q; omega), if_pos hff, hca]
theorem s_rt_end {D : RS} {bt : Nat → Int32} {ln k : Int32} {n : Nat} {S : RS} (hk : ln.toInt ≤ k.toInt) (hff : s_ff S = 0) : s_rt D bt ln (n + 1) k S = s_fin S (s_es S 0 ln) := by
  rw [s_rt_succ, if_pos (Int32.le_iff_toInt_le.mpr hk), if_pos hff]
def NumOut (D : RS) (bt : Nat → Int32) (ln : Int32) (n : Nat) (pp : Int32) (S : RS) (x mn fo fa : Int32) (nu : Nat → Int64) (w : Int32 × Int32 × Int32 × Int32 × (Nat → Int64)) : Prop :=
  (w.1 = -1 ∧ ¬ w.2.1 = 0 ∧ s_ff (s_rt D bt ln n pp S) = w.2.1 ∧ s_fp (s_rt D bt ln n pp S) = w.2.2.1) ∨
  (pp.toInt < w.1.toInt ∧ w.1.toInt ≤ ln.toInt ∧ w.2.1 = fo ∧ w.2.2.1 = fa ∧ w.2.2.2.1 = mn + 1 ∧ ∃ (z : Int64) (n' : Nat) (S' : RS), ln.toInt - w.1.toInt < n' ∧ s_rt D bt ln n pp S = s_rt D bt ln n' w.1 S' ∧ s_core S' = s_core S ∧ s_n0 S' = 0 ∧ s_nc S' = mn + 1 ∧ s_nb S' = (if 5 ≤ mn then s_nb S else vp_updL (s_nb S) mn.toNatClampNeg z) ∧ w.2.2.2.2 = (if 6 ≤ mn then nu else vp_updL nu mn.toNatClampNeg z) ∧ s_ss S' = (if mn = 0 then x else s_ss S) ∧ -2147483647 ≤ z.toInt ∧ z.toInt ≤ 2147483647)
theorem s_val (v : Int64) (a b c d : Int32) : fX1_value a b v c d = if (lg_cmp (v &&& 1) 1) = 0 then (-((v : Int64) >>> ((1 : Int32).toInt64 &&& 63))) else ((v : Int64) >>> ((1 : Int32).toInt64 &&& 63)) := by
  unfold fX1_value
  rcases and1 v with h | h
  · rw [h, if_pos (by decide), if_neg (by decide)]
  · rw [h, if_neg (by decide), if_pos (by decide)]
theorem s_valb {v : Int64} (a b c d : Int32) (hv : 0 ≤ v.toInt) (h : (lg_cmp ((v : Int64) >>> ((1 : Int32).toInt64 &&& 63)) 2147483647) ≤ 0) : -2147483647 ≤ (fX1_value a b v c d).toInt ∧ (fX1_value a b v c d).toInt ≤ 2147483647 := by
  rw [lg_cmp_le, Int64.le_iff_toInt_le, half hv, show (2147483647 : Int64).toInt = 2147483647 from by decide] at h
  rw [s_val]
  by_cases q : (lg_cmp (v &&& 1) 1) = 0
  · rw [if_pos q]
    have e : (-((v : Int64) >>> ((1 : Int32).toInt64 &&& 63))).toInt = -(v.toInt / 2) := by
      rw [Int64.toInt_neg, half hv]
      exact Int.bmod_eq_of_le (by omega) (by omega)
    rw [e]; omega
  · rw [if_neg q, half hv]; omega
set_option maxHeartbeats 4000000 in
theorem s_number {D : RS} {bt tp : Nat → Int32} {ln : Int32} {th dc tl xl fo fa mn ft wl x : Int32} {nu : Nat → Int64} (ht : TapeEq ln bt tp) (hl1 : ln.toInt ≤ 3000) (hx0 : 0 ≤ x.toInt) : ∀ (m : Nat) (v : Int64) (sh be pp : Int32) (S : RS), s_ff S = 0 → 0 ≤ v.toInt → NumRel S x pp v sh be → (s_n0 S = 0 → pp.toInt < ln.toInt ∧ ¬ tp pp.toNatClampNeg = 44 ∧ ¬ tp pp.toNatClampNeg = 59) → sh.toInt % 5 = 0 → 0 ≤ sh.toInt → sh.toInt ≤ 5 * (pp.toInt - x.toInt) → x.toInt ≤ pp.toInt → pp.toInt ≤ ln.toInt → s_nc S = mn → ln.toInt - pp.toInt + 1 < m → ∀ (n : Nat), ln.toInt - pp.toInt < n → ∀ w, w = fX9_number_14 th dc tl xl fo fa mn ft wl tp nu x ln m v sh be pp 1 → NumOut D bt ln n pp S x mn fo fa nu w := by
  intro m
  induction m with
  | zero => intro v sh be pp S _ _ _ _ _ _ _ _ h _ hm; exact absurd hm (by omega)
  | succ m ih =>
    intro v sh be pp S hff hv hR hst h5 hs0 hs1 hxp hpl hnc hm n hn w hw
    obtain ⟨n1, rfl⟩ : ∃ n1, n = n1 + 1 := ⟨n - 1, by omega⟩
    have e1 : pp.toInt < ln.toInt → (pp + 1).toInt = pp.toInt + 1 := fun q => by rw [ti_add (by rw [show (1 : Int32).toInt = 1 from by decide]; omega) (by rw [show (1 : Int32).toInt = 1 from by decide]; omega), show (1 : Int32).toInt = 1 from by decide]
    rw [fX9_number_14] at hw
    simp only [bnd, fX9_fails] at hw
    rw [if_neg (show ¬ (1 : Int32) = 0 by decide)] at hw
    by_cases c1 : pp = ln
    · rw [if_pos c1] at hw
      subst hw
      have ho : ¬ s_n0 S = 0 := fun q => by have := (hst q).1; rw [c1] at this; omega
      left
      rw [s_rt_end (by rw [c1]; exact Int.le_refl _) hff, s_es_open S 0 ln ho]
      exact ⟨rfl, nz2, rfl, c1.symm⟩
    · rw [if_neg c1] at hw
      have hlt : pp.toInt < ln.toInt := by have := i_ne c1; omega
      obtain ⟨n2, rfl⟩ : ∃ n2, n1 = n2 + 1 := ⟨n1 - 1, by omega⟩
      have hb := ht pp.toNatClampNeg (by show ((pp.toInt.toNat : Nat) : Int) < ln.toInt; omega)
      have hch := s_chk hb.2.1 hb.2.2
      have hgo := s_rt_go (D := D) (n := n2 + 1) ht (by omega) hlt hff
      by_cases c2 : tp pp.toNatClampNeg = 44
      · rw [if_pos c2] at hw
        subst hw
        have ho : ¬ s_n0 S = 0 := fun q => (hst q).2.1 c2
        left
        rw [hgo, hch.2.1.mpr c2, s_tk_com, s_es_open S 1 pp ho, s_rt_ff _ _ _ _ _ _ (show ¬ (2 : Int32) = 0 by decide)]
        exact ⟨rfl, nz2, rfl, rfl⟩
      · rw [if_neg c2] at hw
        by_cases c3 : tp pp.toNatClampNeg = 59
        · rw [if_pos c3] at hw
          subst hw
          have ho : ¬ s_n0 S = 0 := fun q => (hst q).2.2 c3
          left
          have hq : s_tk S 59 pp = _ := s_tk_sem S pp _ rfl
          rw [s_es_open S 0 pp ho] at hq
          unfold fX2_startLine at hq
          rw [if_neg (show ¬ (2 : Int32) = 0 by decide)] at hq
          rw [hgo, hch.2.2.1.mpr c3, hq, s_rt_ff _ _ _ _ _ _ (show ¬ (2 : Int32) = 0 by decide)]
          exact ⟨rfl, nz2, rfl, rfl⟩
        · rw [if_neg c3] at hw
          generalize hwo : fX9_worth (tp pp.toNatClampNeg) = d at hw
          by_cases c4 : 0 ≤ d
          · rw [if_pos c4] at hw
            have hidx : fJ0_indexOf_0f7a4 (s_ch (tp pp.toNatClampNeg)) = d := hch.1.trans hwo
            have hd0 : ¬ d < 0 := fun q => by have a := i_lt q; have b := i_le c4; omega
            have hr := s_take (w := d) hR h5 hs0 (by omega) _ rfl
            have htk := s_tk_dig S (s_ch (tp pp.toNatClampNeg)) pp d hidx hd0 _ rfl
            generalize s_tke S d pp = r at hr htk
            obtain ⟨r1, r2, r3, r4, r5, r6⟩ := hr
            have hmod : w = fX9_number_14 th dc tl xl fo fa mn ft wl tp nu x ln m (sh_v v sh d) (sh + 5) (sh_n be sh d) (pp + 1) (if d ≤ 31 then 0 else 1) := by
              unfold sh_v sh_n
              by_cases q1 : (35 : Int32) ≤ sh
              · by_cases q2 : be = 0
                · by_cases q3 : (lg_cmp (((d &&& 31) : Int32).toInt64) 0) = 0
                  · by_cases q4 : d ≤ 31
                    · simp only [if_pos q1, if_pos q2, if_pos q3, if_pos q4] at hw ⊢; exact hw
                    · simp only [if_pos q1, if_pos q2, if_pos q3, if_neg q4] at hw ⊢; exact hw
                  · by_cases q4 : d ≤ 31
                    · simp only [if_pos q1, if_pos q2, if_neg q3, if_pos q4] at hw ⊢; exact hw
                    · simp only [if_pos q1, if_pos q2, if_neg q3, if_neg q4] at hw ⊢; exact hw
                · by_cases q4 : d ≤ 31
                  · simp only [if_pos q1, if_neg q2, if_pos q4] at hw ⊢; exact hw
                  · simp only [if_pos q1, if_neg q2, if_neg q4] at hw ⊢; exact hw
              · by_cases q4 : d ≤ 31
                · simp only [if_neg q1, if_pos q4] at hw ⊢; exact hw
                · simp only [if_neg q1, if_neg q4] at hw ⊢; exact hw
            clear hw
            have e5 : (sh + 5).toInt = sh.toInt + 5 := by rw [ti_add (by rw [show (5 : Int32).toInt = 5 from by decide]; omega) (by rw [show (5 : Int32).toInt = 5 from by decide]; omega), show (5 : Int32).toInt = 5 from by decide]
            by_cases c5 : d ≤ 31
            · rw [if_pos c5] at hmod
              have hr0 : r.1 = 0 := r4.mpr (Int32.lt_iff_toInt_lt.mpr (by have := i_le c5; rw [show (31 : Int32).toInt = 31 from by decide] at this; rw [show (32 : Int32).toInt = 32 from by decide]; omega))
              rw [if_pos hr0] at htk
              obtain ⟨m1, rfl⟩ : ∃ m1, m = m1 + 1 := ⟨m - 1, by omega⟩
              rw [fX9_number_14, if_pos rfl] at hmod
              simp only [bnd, fX9_fails] at hmod
              unfold fX1_isTooLarge at htk
              rw [r2, r3] at htk
              by_cases b1 : sh_n be sh d = 0
              · rw [if_pos b1] at hmod htk
                by_cases b2 : (lg_cmp ((sh_v v sh d : Int64) >>> ((1 : Int32).toInt64 &&& 63)) 2147483647) ≤ 0
                · rw [if_pos b2] at hmod
                  rw [if_pos b2, if_pos rfl] at htk
                  right
                  have hw1 : w.1 = pp + 1 ∧ w.2.1 = fo ∧ w.2.2.1 = fa ∧ w.2.2.2.1 = mn + 1 ∧ w.2.2.2.2 = (if 6 ≤ mn then nu else vp_updL nu mn.toNatClampNeg (fX1_value r.1 r.2.1 (sh_v v sh d) r.2.2.2.1 (sh_n be sh d))) := by
                    rw [s_val]
                    by_cases b3 : (6 : Int32) ≤ mn
                    · rw [if_pos b3] at hmod; subst hmod; exact ⟨rfl, rfl, rfl, rfl, by rw [if_pos b3]⟩
                    · rw [if_neg b3] at hmod
                      by_cases b4 : (lg_cmp (sh_v v sh d &&& 1) 1) = 0
                      · rw [if_pos b4] at hmod; subst hmod; exact ⟨rfl, rfl, rfl, rfl, by rw [if_neg b3, if_pos b4]⟩
                      · rw [if_neg b4] at hmod; subst hmod; exact ⟨rfl, rfl, rfl, rfl, by rw [if_neg b3, if_neg b4]⟩
                  obtain ⟨w1, w2, w3, w4, w5⟩ := hw1
                  refine ⟨by rw [w1, e1 hlt]; omega, by rw [w1, e1 hlt]; omega, w2, w3, w4, _, n2 + 1, s_done S pp r, by rw [w1, e1 hlt]; omega, by rw [hgo, htk, w1], rfl, hr0, by show s_nc S + 1 = _; rw [hnc], ?_, w5, ?_, s_valb _ _ _ _ (sv_pos hv h5 hs0) b2⟩
                  · show (if 5 ≤ s_nc S then s_nb S else vp_updL (s_nb S) (s_nc S).toNatClampNeg (fX1_value r.1 r.2.1 r.2.2.1 r.2.2.2.1 r.2.2.2.2)) = _
                    rw [hnc, r2, r3]
                  · show s_st S pp = _
                    by_cases b5 : mn = 0
                    · rw [if_pos b5]; exact r6 (hnc.trans b5)
                    · rw [if_neg b5]; unfold s_st; rw [if_neg (by rw [hnc]; exact b5)]
                · rw [if_neg b2] at hmod
                  rw [if_neg b2, if_neg (by decide)] at htk
                  subst hmod
                  left
                  rw [hgo, htk, s_rt_ff _ _ _ _ _ _ (show ¬ (2 : Int32) = 0 by decide)]
                  exact ⟨rfl, nz2, rfl, r1⟩
              · rw [if_neg b1] at hmod htk
                rw [if_neg (by decide)] at htk
                subst hmod
                left
                rw [hgo, htk, s_rt_ff _ _ _ _ _ _ (show ¬ (2 : Int32) = 0 by decide)]
                exact ⟨rfl, nz2, rfl, r1⟩
            · rw [if_neg c5] at hmod
              have hr0 : ¬ r.1 = 0 := fun q => c5 (Int32.le_iff_toInt_le.mpr (by have := i_lt (r4.mp q); rw [show (32 : Int32).toInt = 32 from by decide] at this; rw [show (31 : Int32).toInt = 31 from by decide]; omega))
              rw [if_neg hr0] at htk
              have hbe : sh_n be sh d = 0 ∨ sh_n be sh d = 1 := by
                unfold sh_n
                by_cases q1 : (35 : Int32) ≤ sh
                · rw [if_pos q1]
                  by_cases q2 : be = 0
                  · rw [if_pos q2]
                    by_cases q3 : (lg_cmp (((d &&& 31) : Int32).toInt64) 0) = 0
                    · rw [if_pos q3]; exact Or.inl rfl
                    · rw [if_neg q3]; exact Or.inr rfl
                  · rw [if_neg q2]; exact Or.inr rfl
                · rw [if_neg q1]
                  rcases hR with k | k
                  · exact Or.inl k.2.2.2.2
                  · exact k.2.2.2.2.1
              have hR1 : NumRel (s_num S pp r) x (pp + 1) (sh_v v sh d) (sh + 5) (sh_n be sh d) := Or.inr ⟨hr0, r1, r2, r3, hbe, by rw [e5]; exact r5, fun q => r6 q⟩
              have key := ih (sh_v v sh d) (sh + 5) (sh_n be sh d) (pp + 1) (s_num S pp r) hff (sv_pos hv h5 hs0) hR1 (fun q => absurd q hr0) (by rw [e5]; omega) (by rw [e5]; omega) (by rw [e5, e1 hlt]; omega) (by rw [e1 hlt]; omega) (by rw [e1 hlt]; omega) hnc (by rw [e1 hlt]; omega) (n2 + 1) (by rw [e1 hlt]; omega) w hmod
              have hrt : s_rt D bt ln (n2 + 1 + 1) pp S = s_rt D bt ln (n2 + 1) (pp + 1) (s_num S pp r) := by rw [hgo, htk]
              rcases key with ⟨k1, k2, k3, k4⟩ | ⟨k1, k2, k3, k4, k5, z, n', S', k6, k7, k8, k9, k10, k11, k12, k13, k14⟩
              · exact Or.inl ⟨k1, k2, by rw [hrt]; exact k3, by rw [hrt]; exact k4⟩
              · refine Or.inr ⟨by rw [e1 hlt] at k1; omega, k2, k3, k4, k5, z, n', S', k6, by rw [hrt]; exact k7, k8, k9, k10, k11, k12, ?_, k14⟩
                rw [k13]
                by_cases b5 : mn = 0
                · rw [if_pos b5, if_pos b5]
                · rw [if_neg b5, if_neg b5]
                  show s_st S pp = s_ss S
                  unfold s_st; rw [if_neg (by rw [hnc]; exact b5)]
          · rw [if_neg c4] at hw
            subst hw
            left
            have hlo : fJ0_indexOf_0f7a4 (s_ch (tp pp.toNatClampNeg)) < 0 := by rw [hch.1, hwo]; exact Int32.lt_iff_toInt_lt.mpr (by have := i_nle c4; exact this)
            rw [hgo, s_tk_bad S _ pp hlo (fun q => c2 (hch.2.1.mp q)) (fun q => c3 (hch.2.2.1.mp q)), s_rt_ff _ _ _ _ _ _ (show ¬ (1 : Int32) = 0 by decide)]
            exact ⟨rfl, nz1, rfl, rfl⟩
