/-! what stays true of the reference's cells -/
def R6 (f : Nat → Int32) : Prop := ∀ j : Nat, j % 6 = 0 → L9 (f j)
def CtOk (ct : Nat → Int32) : Prop := ∀ j : Nat, j < 2 → 0 ≤ (ct j).toInt ∧ (ct j).toInt ≤ 300
theorem r6_0 : R6 (fun _ => 0) := fun _ _ => L9_0
theorem ct_0 : CtOk (fun _ => 0) := fun _ _ => ⟨show 0 ≤ (0 : Int32).toInt by decide, show (0 : Int32).toInt ≤ 300 by decide⟩
theorem r6_upd {f : Nat → Int32} {k : Nat} {x : Int32} (h : R6 f) (hx : k % 6 = 0 → L9 x) : R6 (upd f k x) := fun j hj => by
  unfold upd
  split
  · rename_i e; subst e; exact hx hj
  · exact h j hj
theorem ct_upd {f : Nat → Int32} {k : Nat} {x : Int32} (h : CtOk f) (h0 : 0 ≤ x.toInt) (h1 : x.toInt ≤ 300) : CtOk (upd f k x) := fun j hj => by
  unfold upd
  split
  · exact ⟨h0, h1⟩
  · exact h j hj
theorem r6_ne {f : Nat → Int32} {k : Nat} {x : Int32} (h : R6 f) (hx : k % 6 ≠ 0) : R6 (upd f k x) := r6_upd h (fun q => absurd q hx)
theorem m6 {a : Int32} {c : Nat} (h0 : 0 ≤ a.toInt) (h1 : a.toInt ≤ 100000) (hc : c < 6) (h6 : a.toInt % 6 = 0) : (a + nI c).toNatClampNeg % 6 = c := by
  have e : (a + nI c).toInt = a.toInt + c := by rw [ti_add (by rw [nI_toInt (by omega)]; omega) (by rw [nI_toInt (by omega)]; omega), nI_toInt (by omega)]
  show (a + nI c).toInt.toNat % 6 = c
  omega
theorem six {k : Int32} (h0 : 0 ≤ k.toInt) (h1 : k.toInt ≤ 1000) : (6 * k).toInt = 6 * k.toInt := by
  rw [ti_mul (by rw [show (6 : Int32).toInt = 6 from by decide]; omega) (by rw [show (6 : Int32).toInt = 6 from by decide]; omega), show (6 : Int32).toInt = 6 from by decide]
theorem e18 {x : Int32} (h0 : 0 ≤ x.toInt) (h1 : x.toInt ≤ 1) : (1800 * x).toInt = 1800 * x.toInt := by
  rw [ti_mul (by rw [show (1800 : Int32).toInt = 1800 from by decide]; omega) (by rw [show (1800 : Int32).toInt = 1800 from by decide]; omega), show (1800 : Int32).toInt = 1800 from by decide]
theorem rowi {x k : Int32} (h0 : 0 ≤ x.toInt) (h1 : x.toInt ≤ 1) (h2 : 0 ≤ k.toInt) (h3 : k.toInt ≤ 1000) : ((1800 * x) + (6 * k)).toInt = 1800 * x.toInt + 6 * k.toInt := by
  rw [ti_add (by rw [e18 h0 h1, six h2 h3]; omega) (by rw [e18 h0 h1, six h2 h3]; omega), e18 h0 h1, six h2 h3]
/-- the six numbers of a row, written -/
theorem r6_row {f : Nat → Int32} {a x0 x1 x2 x3 x4 x5 : Int32} (h : R6 f) (h0 : 0 ≤ a.toInt) (h1 : a.toInt ≤ 100000) (h6 : a.toInt % 6 = 0) (hx : L9 x0) : R6 (upd (upd (upd (upd (upd (upd f a.toNatClampNeg x0) (a + 1).toNatClampNeg x1) (a + 2).toNatClampNeg x2) (a + 3).toNatClampNeg x3) (a + 4).toNatClampNeg x4) (a + 5).toNatClampNeg x5) := by
  have m1 := m6 (c := 1) h0 h1 (by omega) h6
  have m2 := m6 (c := 2) h0 h1 (by omega) h6
  have m3 := m6 (c := 3) h0 h1 (by omega) h6
  have m4 := m6 (c := 4) h0 h1 (by omega) h6
  have m5 := m6 (c := 5) h0 h1 (by omega) h6
  refine r6_ne (r6_ne (r6_ne (r6_ne (r6_ne (r6_upd h (fun _ => hx)) ?_) ?_) ?_) ?_) ?_
  · rw [show (a + 1).toNatClampNeg % 6 = 1 from m1]; decide
  · rw [show (a + 2).toNatClampNeg % 6 = 2 from m2]; decide
  · rw [show (a + 3).toNatClampNeg % 6 = 3 from m3]; decide
  · rw [show (a + 4).toNatClampNeg % 6 = 4 from m4]; decide
  · rw [show (a + 5).toNatClampNeg % 6 = 5 from m5]; decide
theorem wi9 {x : Int32} (h : ¬ fX9_within ((x : Int32).toInt64) 199 = 0) : L9 x := by
  unfold fX9_within at h
  split at h
  · exact absurd rfl h
  · rename_i h1
    split at h
    · exact absurd rfl h
    · rename_i h2
      rw [lg_cmp_lt] at h1
      rw [lg_cmp_gt] at h2
      rw [Int64.lt_iff_toInt_lt, Int32.toInt_toInt64] at h1
      rw [Int64.lt_iff_toInt_lt, Int32.toInt_toInt64, show (199 : Int64).toInt = 199 from by decide] at h2
      rw [show (0 : Int64).toInt = 0 from by decide] at h1
      exact ⟨by omega, by omega⟩
theorem r6_putA {th dc tl xl fo fa mn ft wl : Int32} {rw ct : Nat → Int32} {x y1 y2 y3 y4 y5 y6 : Int32} (hx0 : 0 ≤ x.toInt) (hx1 : x.toInt ≤ 1) (hy : L9 y1) (hct : CtOk ct) (hc : (ct x.toNatClampNeg).toInt ≤ 299) : ∀ (n hd : Nat) (k f : Int32) (rz : Nat → Int32), 0 ≤ k.toInt → k.toInt ≤ 299 → (hd = 110 ∨ 1 ≤ k.toInt) → 0 ≤ f.toInt → f.toInt ≤ 6 → R6 rz → R6 (fX9_put_A th dc tl xl fo fa mn ft wl rw ct x y1 y2 y3 y4 y5 y6 n hd k f rz).2.2.1 ∧ CtOk (fX9_put_A th dc tl xl fo fa mn ft wl rw ct x y1 y2 y3 y4 y5 y6 n hd k f rz).2.2.2 := by
  have hcu : CtOk (upd ct x.toNatClampNeg ((ct x.toNatClampNeg) + 1)) := by
    have q := hct x.toNatClampNeg (cl_lt hx0 (by omega))
    have e : ((ct x.toNatClampNeg) + 1).toInt = (ct x.toNatClampNeg).toInt + 1 := by rw [ti_add (by rw [show (1 : Int32).toInt = 1 from by decide]; omega) (by rw [show (1 : Int32).toInt = 1 from by decide]; omega), show (1 : Int32).toInt = 1 from by decide]
    exact ct_upd hct (by omega) (by omega)
  intro n
  induction n with
  | zero => intros; exact ⟨r6_0, ct_0⟩
  | succ n ih =>
    intro hd k f rz hk0 hk1 hh hf0 hf1 hr
    have er := rowi (k := k) hx0 hx1 hk0 (by omega)
    rw [fX9_put_A]
    simp only [bnd]
    split
    · split
      · repeat' split
        all_goals exact ⟨r6_row hr (by omega) (by omega) (by omega) hy, hcu⟩
      · rename_i c
        have q := i_nle c
        rw [Int32.toInt_zero] at q
        split
        · repeat' split
          all_goals exact ⟨r6_row hr (by omega) (by omega) (by omega) hy, hcu⟩
        · exact ih _ _ _ _ hk0 hk1 (Or.inr (by omega)) (by decide) (by decide) hr
    · rename_i hd9
      have hk2 : 1 ≤ k.toInt := by rcases hh with h | h; exact absurd h hd9; exact h
      split
      · have e : (k + (-1)).toInt = k.toInt - 1 := by rw [ti_add (by rw [show (-1 : Int32).toInt = -1 from by decide]; omega) (by rw [show (-1 : Int32).toInt = -1 from by decide]; omega), show (-1 : Int32).toInt = -1 from by decide]; omega
        exact ih _ _ _ _ (by omega) (by omega) (Or.inl rfl) (by decide) (by decide) hr
      · rename_i c
        have q := i_nle c
        rw [show (6 : Int32).toInt = 6 from by decide] at q
        have e : (f + 1).toInt = f.toInt + 1 := by rw [ti_add (by rw [show (1 : Int32).toInt = 1 from by decide]; omega) (by rw [show (1 : Int32).toInt = 1 from by decide]; omega), show (1 : Int32).toInt = 1 from by decide]
        have e1 : (k - 1).toInt = k.toInt - 1 := by rw [ti_sub (by rw [show (1 : Int32).toInt = 1 from by decide]; omega) (by rw [show (1 : Int32).toInt = 1 from by decide]; omega), show (1 : Int32).toInt = 1 from by decide]
        have er1 := rowi (k := k - 1) hx0 hx1 (by omega) (by omega)
        have i1 : (((1800 * x) + (6 * k)) + f).toInt = 1800 * x.toInt + 6 * k.toInt + f.toInt := by rw [ti_add (by omega) (by omega)]; omega
        have i2 : (((1800 * x) + (6 * (k - 1))) + f).toInt = 1800 * x.toInt + 6 * (k.toInt - 1) + f.toInt := by rw [ti_add (by omega) (by omega)]; omega
        refine ih _ _ _ _ hk0 hk1 (Or.inr hk2) (by omega) (by omega) (r6_upd hr (fun z => hr _ ?_))
        change (((1800 * x) + (6 * k)) + f).toInt.toNat % 6 = 0 at z
        show (((1800 * x) + (6 * (k - 1))) + f).toInt.toNat % 6 = 0
        omega
theorem r6_put {th dc tl xl fo fa mn ft wl : Int32} {rw ct : Nat → Int32} {x y1 y2 y3 y4 y5 y6 : Int32} (hct : CtOk ct) (hr : R6 rw) : R6 (fX9_put th dc tl xl fo fa mn ft wl rw ct x y1 y2 y3 y4 y5 y6).2.2.1 ∧ CtOk (fX9_put th dc tl xl fo fa mn ft wl rw ct x y1 y2 y3 y4 y5 y6).2.2.2 := by
  unfold fX9_put
  simp only [bnd]
  split
  · exact ⟨hr, hct⟩
  · rename_i c0
    have c0 := i_nlt c0
    rw [Int32.toInt_zero] at c0
    split
    · exact ⟨hr, hct⟩
    · rename_i c1
      have c1 := i_nlt c1
      rw [show (1 : Int32).toInt = 1 from by decide] at c1
      split
      · exact ⟨hr, hct⟩
      · rename_i c2
        have hy := wi9 c2
        split
        · exact ⟨hr, hct⟩
        · split
          · exact ⟨hr, hct⟩
          · rename_i c3
            have q := hct x.toNatClampNeg (cl_lt c0 (by omega))
            have c3 := i_ne c3
            rw [show (300 : Int32).toInt = 300 from by decide] at c3
            have go := r6_putA (th := th) (dc := dc) (tl := tl) (xl := xl) (fo := fo) (fa := fa) (mn := mn) (ft := ft) (wl := wl) (rw := rw) (y2 := y2) (y3 := y3) (y4 := y4) (y5 := y5) (y6 := y6) c0 c1 hy hct (by omega) 2500 110 (ct x.toNatClampNeg) 0 rw q.1 (by omega) (Or.inl rfl) (by decide) (by decide) hr
            repeat' split
            all_goals first | exact ⟨hr, hct⟩ | exact go
def LA (la : Nat → Int64) : Prop := 0 ≤ (la 0).toInt ∧ (la 0).toInt ≤ 199
theorem la_ne {la : Nat → Int64} {k : Nat} {v : Int64} (h : LA la) (hk : k ≠ 0) : LA (vp_updL la k v) := by
  have e : vp_updL la k v 0 = la 0 := by
    unfold vp_updL
    exact if_neg (fun q => hk q.symm)
  unfold LA
  rw [e]
  exact h
theorem la_line {la : Nat → Int64} (h : LA la) : L9 (((la (0 : Int32).toNatClampNeg) : Int64).toInt32) := by
  have h : 0 ≤ (la (0 : Int32).toNatClampNeg).toInt ∧ (la (0 : Int32).toNatClampNeg).toInt ≤ 199 := h
  unfold L9
  rw [Int64.toInt_toInt32, Int.bmod_eq_of_le (by omega) (by omega)]
  exact h
abbrev SgOk (dc : Int32) (dr : Nat → Int32) (la : Nat → Int64) : Prop := (0 ≤ dc.toInt ∧ dc.toInt ≤ 300) ∧ R6 dr ∧ LA la
theorem sg_0 : SgOk 0 (fun _ => 0) (fun _ => 0) := ⟨⟨by decide, by decide⟩, r6_0, by unfold LA; decide⟩
theorem sg217 {th dc tl xl fo fa mn ft wl x : Int32} {dr : Nat → Int32} {nu la : Nat → Int64} {gd : Int32} {lz : Nat → Int64} (h : SgOk dc dr lz) : ∀ r, r = fX9_segment_217 th dc tl xl fo fa mn ft wl dr nu la x 1 gd lz → SgOk r.2.1 r.2.2.2.2.1 r.2.2.2.2.2 := by
  intro r hr
  obtain ⟨⟨h0, h1⟩, h2, h3⟩ := h
  have e6 := six h0 (by omega)
  rw [show (1 : Nat) = 0 + 1 from rfl, fX9_segment_217] at hr
  simp only [bnd] at hr
  split at hr
  · subst hr; exact ⟨⟨h0, h1⟩, h2, h3⟩
  · split at hr
    · subst hr; exact ⟨⟨h0, h1⟩, h2, h3⟩
    · rename_i c
      have c := i_ne c
      rw [show (300 : Int32).toInt = 300 from by decide] at c
      have e : (dc + 1).toInt = dc.toInt + 1 := by rw [ti_add (by rw [show (1 : Int32).toInt = 1 from by decide]; omega) (by rw [show (1 : Int32).toInt = 1 from by decide]; omega), show (1 : Int32).toInt = 1 from by decide]
      repeat' split at hr
      all_goals subst hr
      all_goals exact ⟨⟨by show 0 ≤ (dc + 1).toInt; omega, by show (dc + 1).toInt ≤ 300; omega⟩, r6_row h2 (by omega) (by omega) (by omega) (la_line h3), h3⟩
theorem sg98 {th dc tl xl fo fa mn ft wl x : Int32} {dr : Nat → Int32} {nu la : Nat → Int64} : ∀ (n : Nat) (k gd : Int32) (lz : Nat → Int64), 1 ≤ k.toInt → SgOk dc dr lz → ∀ r, r = fX9_segment_98 th dc tl xl fo fa mn ft wl dr nu la x n k gd lz → SgOk r.2.1 r.2.2.2.2.1 r.2.2.2.2.2 := by
  intro n
  induction n with
  | zero => intro k gd lz _ _ r hr; subst hr; exact sg_0
  | succ n ih =>
    intro k gd lz hk h r hr
    rw [fX9_segment_98] at hr
    simp only [bnd] at hr
    by_cases c : mn ≤ k
    · rw [if_pos c] at hr
      repeat' split at hr
      all_goals exact sg217 h r hr
    · rw [if_neg c] at hr
      have c := i_nle c
      have b := Int32.toInt_lt mn
      have e : (k + 1).toInt = k.toInt + 1 := by rw [ti_add (by rw [show (1 : Int32).toInt = 1 from by decide]; omega) (by rw [show (1 : Int32).toInt = 1 from by decide]; omega), show (1 : Int32).toInt = 1 from by decide]
      refine ih _ _ _ (by omega) ⟨h.1, h.2.1, la_ne h.2.2 ?_⟩ r hr
      show (k + 1).toInt.toNat ≠ 0
      omega
theorem sgAll {th dc tl xl fo fa mn ft wl x : Int32} {dr : Nat → Int32} {nu la : Nat → Int64} (h : SgOk dc dr la) : ∀ r, r = fX9_segment th dc tl xl fo fa mn ft wl dr nu la x → SgOk r.2.1 r.2.2.2.2.1 r.2.2.2.2.2 := by
  intro r hr
  have h' : ∀ v, SgOk dc dr (vp_updL la (1 : Int32).toNatClampNeg v) := fun v => ⟨h.1, h.2.1, la_ne h.2.2 (by decide)⟩
  unfold fX9_segment at hr
  simp only [bnd] at hr
  repeat' split at hr
  all_goals first | exact sg217 (h' _) r hr | exact sg98 _ _ _ _ (by decide) (h' _) r hr | (subst hr; exact h)
theorem sg_inc {la : Nat → Int64} (h : LA la) (c : ¬ (lg_cmp (la (0 : Int32).toNatClampNeg) 199) = 0) : LA (vp_updL (vp_updL la (0 : Int32).toNatClampNeg ((la (0 : Int32).toNatClampNeg) + 1)) (1 : Int32).toNatClampNeg 0) := by
  refine la_ne ?_ (by decide)
  have c : ¬ (la 0) = 199 := fun q => c ((lg_cmp_eq _ _).mpr q)
  have c : (la 0).toInt ≠ 199 := fun q => c (Int64.toInt_inj.mp (by rw [q]; decide))
  have e : vp_updL la (0 : Int32).toNatClampNeg ((la (0 : Int32).toNatClampNeg) + 1) 0 = la 0 + 1 := by
    unfold vp_updL
    exact if_pos (by decide)
  have h0 := h.1
  have h1 := h.2
  unfold LA
  rw [e, Int64.toInt_add, show (1 : Int64).toInt = 1 from by decide, Int.bmod_eq_of_le (by omega) (by omega)]
  omega
theorem sgA {th dc tl xl fo fa mn ft wl nn : Int32} {dr tp : Nat → Int32} {nu la : Nat → Int64} : ∀ (n hd : Nat) (pp mo fs dcz : Int32) (drz : Nat → Int32) (foz faz mnz : Int32) (nuz laz : Nat → Int64), SgOk dcz drz laz → ∀ r, r = fX9_readAll_A th dc tl xl fo fa mn ft wl dr tp nu la nn n hd pp mo fs dcz drz foz faz mnz nuz laz → SgOk r.2.1 r.2.2.2.2.2.1 r.2.2.2.2.2.2.2 := by
  intro n
  induction n with
  | zero => intro hd pp mo fs dcz drz foz faz mnz nuz laz _ r hr; subst hr; exact sg_0
  | succ n ih =>
    intro hd pp mo fs dcz drz foz faz mnz nuz laz h r hr
    rw [fX9_readAll_A] at hr
    simp only [bnd] at hr
    have hs := sgAll (th := th) (tl := tl) (xl := xl) (fo := foz) (fa := faz) (mn := mnz) (ft := ft) (wl := wl) (x := fs) (nu := nuz) h _ rfl
    generalize fX9_segment th dcz tl xl foz faz mnz ft wl drz nuz laz fs = w at hr hs
    repeat' split at hr
    all_goals first | exact ih _ _ _ _ _ _ _ _ _ _ _ h r hr | exact ih _ _ _ _ _ _ _ _ _ _ _ hs r hr | exact ih _ _ _ _ _ _ _ _ _ _ _ ⟨h.1, h.2.1, sg_inc h.2.2 (by assumption)⟩ r hr | (subst hr; exact h) | (subst hr; exact hs)
theorem sg7 {th dc tl xl fo fa mn ft wl nn : Int32} {dr tp : Nat → Int32} {nu la : Nat → Int64} (h : R6 dr) : ∀ (n : Nat) (k : Int32) (lz : Nat → Int64), 0 ≤ k.toInt → (1 ≤ k.toInt → LA lz) → ∀ r, r = fX9_readAll_7 th dc tl xl fo fa mn ft wl dr tp nu la nn n k lz → SgOk r.2.1 r.2.2.2.2.2.1 r.2.2.2.2.2.2.2 := by
  intro n
  induction n with
  | zero => intro k lz _ _ r hr; subst hr; exact sg_0
  | succ n ih =>
    intro k lz hk hl r hr
    rw [fX9_readAll_7] at hr
    by_cases c : (6 : Int32) ≤ k
    · rw [if_pos c] at hr
      have c := i_le c
      rw [show (6 : Int32).toInt = 6 from by decide] at c
      exact sgA _ _ _ _ _ _ _ _ _ _ _ _ ⟨⟨by decide, by decide⟩, h, hl (by omega)⟩ r hr
    · rw [if_neg c] at hr
      have c := i_nle c
      rw [show (6 : Int32).toInt = 6 from by decide] at c
      have e : (k + 1).toInt = k.toInt + 1 := by rw [ti_add (by rw [show (1 : Int32).toInt = 1 from by decide]; omega) (by rw [show (1 : Int32).toInt = 1 from by decide]; omega), show (1 : Int32).toInt = 1 from by decide]
      refine ih _ _ (by omega) (fun _ => ?_) r hr
      by_cases z : k.toInt.toNat = 0
      · have e9 : vp_updL lz k.toNatClampNeg 0 0 = 0 := by
          unfold vp_updL
          exact if_pos z.symm
        unfold LA
        rw [e9]
        decide
      · exact la_ne (hl (by omega)) z
theorem sgRead {th dc tl xl fo fa mn ft wl nn : Int32} {dr tp : Nat → Int32} {nu la : Nat → Int64} (h : R6 dr) : ∀ r, r = fX9_readAll th dc tl xl fo fa mn ft wl dr tp nu la nn → SgOk r.2.1 r.2.2.2.2.2.1 r.2.2.2.2.2.2.2 := fun r hr => sg7 h 7 0 la (by decide) (fun q => absurd q (by decide)) r hr
theorem rd49 {th dc tl xl fo fa mn ft wl x : Int32} {rw ct dr tp : Nat → Int32} {nu la : Nat → Int64} (hx0 : 0 ≤ x.toInt) (hx1 : x.toInt ≤ 1) (hct : CtOk ct) : ∀ (n : Nat) (k : Int32) (rz : Nat → Int32) (dcz foz faz mnz : Int32) (drz : Nat → Int32) (nuz laz : Nat → Int64), 0 ≤ k.toInt → 0 ≤ dcz.toInt → dcz.toInt ≤ 300 → R6 rz → R6 drz → ∀ r, r = fX9_read_49 th dc tl xl fo fa mn ft wl rw ct dr tp nu la x n k rz dcz foz faz mnz drz nuz laz → r.2.2.2.1 = 0 ∧ R6 r.2.2.2.2.2.2.2.1 ∧ CtOk r.2.2.2.2.2.2.2.2.1 ∧ R6 r.2.2.2.2.2.2.2.2.2.1 := by
  intro n
  induction n with
  | zero => intro k rz dcz foz faz mnz drz nuz laz _ _ _ _ _ r hr; subst hr; exact ⟨rfl, r6_0, ct_0, r6_0⟩
  | succ n ih =>
    intro k rz dcz foz faz mnz drz nuz laz hk hd0 hd1 hz hd r hr
    have e6 := six hd0 (by omega)
    rw [fX9_read_49] at hr
    by_cases c : (6 * dcz) ≤ k
    · rw [if_pos c] at hr
      subst hr
      exact ⟨rfl, hz, ct_upd hct hd0 hd1, hd⟩
    · rw [if_neg c] at hr
      have c := i_nle c
      have e : (k + 1).toInt = k.toInt + 1 := by rw [ti_add (by rw [show (1 : Int32).toInt = 1 from by decide]; omega) (by rw [show (1 : Int32).toInt = 1 from by decide]; omega), show (1 : Int32).toInt = 1 from by decide]
      have e2 := e18 hx0 hx1
      have e1 : ((1800 * x) + k).toInt = 1800 * x.toInt + k.toInt := by rw [ti_add (by omega) (by omega), e2]
      refine ih _ _ _ _ _ _ _ _ _ (by omega) hd0 hd1 (r6_upd hz (fun z => hd _ ?_)) hd r hr
      change ((1800 * x) + k).toInt.toNat % 6 = 0 at z
      show k.toInt.toNat % 6 = 0
      omega
theorem rd_model {th dc tl xl fo fa mn ft wl x : Int32} {rw ct dr tp : Nat → Int32} {nu la : Nat → Int64} (hct : CtOk ct) (hr6 : R6 rw) (hd6 : R6 dr) : ∀ r, r = fX9_read th dc tl xl fo fa mn ft wl rw ct dr tp nu la x → r.2.2.2.1 = 0 ∧ R6 r.2.2.2.2.2.2.2.1 ∧ CtOk r.2.2.2.2.2.2.2.2.1 ∧ R6 r.2.2.2.2.2.2.2.2.2.1 := by
  intro r hr
  unfold fX9_read at hr
  simp only [bnd] at hr
  by_cases c0 : x < 0
  · rw [if_pos c0] at hr; subst hr; exact ⟨rfl, hr6, hct, hd6⟩
  · rw [if_neg c0] at hr
    by_cases c1 : x ≤ 1
    · rw [if_pos c1] at hr
      have c0 := i_nlt c0
      have c1 := i_le c1
      rw [Int32.toInt_zero] at c0
      rw [show (1 : Int32).toInt = 1 from by decide] at c1
      have hs := sgRead (th := 0) (dc := dc) (tl := 0) (xl := xl) (fo := 0) (fa := fa) (mn := mn) (ft := ft) (wl := wl) (nn := tl) (tp := tp) (nu := nu) (la := la) hd6 _ rfl
      generalize fX9_readAll 0 dc 0 xl 0 fa mn ft wl dr tp nu la tl = w at hr hs
      split at hr
      · subst hr; exact ⟨rfl, hr6, hct, hs.2.1⟩
      · exact rd49 c0 c1 hct _ _ _ _ _ _ _ _ _ _ (by decide) hs.1.1 hs.1.2 hr6 hs.2.1 r hr
    · rw [if_neg c1] at hr; subst hr; exact ⟨rfl, hr6, hct, hd6⟩
theorem r6_2345 {f : Nat → Int32} {k a b c d : Int32} (h : R6 f) (h0 : 0 ≤ k.toInt) (h1 : k.toInt ≤ 300) : R6 (upd (upd (upd f ((6 * k) + 2).toNatClampNeg a) ((6 * k) + 3).toNatClampNeg b) ((6 * k) + 4).toNatClampNeg c) ∧ R6 (upd (upd (upd (upd f ((6 * k) + 2).toNatClampNeg a) ((6 * k) + 3).toNatClampNeg b) ((6 * k) + 4).toNatClampNeg c) ((6 * k) + 5).toNatClampNeg d) := by
  have e6 := six h0 (by omega)
  have m2 := m6 (a := 6 * k) (c := 2) (by omega) (by omega) (by omega) (by omega)
  have m3 := m6 (a := 6 * k) (c := 3) (by omega) (by omega) (by omega) (by omega)
  have m4 := m6 (a := 6 * k) (c := 4) (by omega) (by omega) (by omega) (by omega)
  have m5 := m6 (a := 6 * k) (c := 5) (by omega) (by omega) (by omega) (by omega)
  have q : R6 (upd (upd (upd f ((6 * k) + 2).toNatClampNeg a) ((6 * k) + 3).toNatClampNeg b) ((6 * k) + 4).toNatClampNeg c) := by
    refine r6_ne (r6_ne (r6_ne h ?_) ?_) ?_
    · rw [show ((6 * k) + 2).toNatClampNeg % 6 = 2 from m2]; decide
    · rw [show ((6 * k) + 3).toNatClampNeg % 6 = 3 from m3]; decide
    · rw [show ((6 * k) + 4).toNatClampNeg % 6 = 4 from m4]; decide
  refine ⟨q, r6_ne q ?_⟩
  rw [show ((6 * k) + 5).toNatClampNeg % 6 = 5 from m5]; decide
theorem cp_model9 {th dc tl xl fo fa mn ft wl : Int32} {rw ct : Nat → Int32} (hct : CtOk ct) : ∀ (n : Nat) (te k : Int32) (rz : Nat → Int32), 0 ≤ k.toInt → R6 rz → R6 (fX9_compose_9 th dc tl xl fo fa mn ft wl rw ct n te k rz).2.2 := by
  intro n
  induction n with
  | zero => intros; exact r6_0
  | succ n ih =>
    intro te k rz hk h
    rw [fX9_compose_9]
    simp only [bnd]
    by_cases c : (ct (0 : Int32).toNatClampNeg) ≤ k
    · rw [if_pos c]; exact h
    · rw [if_neg c]
      have c := i_nle c
      have q := hct (0 : Int32).toNatClampNeg (by decide)
      have e : (k + 1).toInt = k.toInt + 1 := by rw [ti_add (by rw [show (1 : Int32).toInt = 1 from by decide]; omega) (by rw [show (1 : Int32).toInt = 1 from by decide]; omega), show (1 : Int32).toInt = 1 from by decide]
      split
      · generalize fX9_segmentOf 0 dc tl xl fo fa mn ft wl rz ct 1 (rz ((6 * k) + 3).toNatClampNeg) (rz ((6 * k) + 4).toNatClampNeg) = q9
        split
        · exact ih _ _ _ (by omega) (r6_2345 h hk (by omega)).2
        · split
          · split
            · exact ih _ _ _ (by omega) (r6_2345 (d := 0) h hk (by omega)).1
            · exact ih _ _ _ (by omega) (r6_2345 h hk (by omega)).2
          · exact ih _ _ _ (by omega) (r6_2345 h hk (by omega)).2
      · exact ih _ _ _ (by omega) h
theorem cp_model {th dc tl xl fo fa mn ft wl : Int32} {rw ct : Nat → Int32} (hct : CtOk ct) (h : R6 rw) : R6 (fX9_compose th dc tl xl fo fa mn ft wl rw ct).2.2 := cp_model9 hct _ _ _ _ (by decide) h
theorem fd23 {th dc tl xl fo fa mn ft wl wa wb wc wd we : Int32} {tp : Nat → Int32} : ∀ (n : Nat) (k : Int32) (tz : Nat → Int32) (lz : Int32), 0 ≤ k.toInt → k.toInt ≤ 20 → 20 - k.toInt < n → 0 ≤ lz.toInt → lz.toInt + (20 - k.toInt) ≤ 3000 → ∀ r, r = fX9_feed_23 th dc tl xl fo fa mn ft wl tp wa wb wc wd we n k tz lz → r.1 = 1 ∧ r.2.2.1.toInt = lz.toInt + (20 - k.toInt) := by
  intro n
  induction n with
  | zero => intro k tz lz h0 h1 h2; exact absurd h2 (by omega)
  | succ n ih =>
    intro k tz lz h0 h1 h2 h3 h4 r hr
    rw [fX9_feed_23] at hr
    by_cases c : (20 : Int32) ≤ k
    · rw [if_pos c] at hr
      have c := i_le c
      rw [show (20 : Int32).toInt = 20 from by decide] at c
      subst hr
      exact ⟨rfl, by show lz.toInt = _; omega⟩
    · rw [if_neg c] at hr
      have c := i_nle c
      rw [show (20 : Int32).toInt = 20 from by decide] at c
      have e : (k + 1).toInt = k.toInt + 1 := by rw [ti_add (by rw [show (1 : Int32).toInt = 1 from by decide]; omega) (by rw [show (1 : Int32).toInt = 1 from by decide]; omega), show (1 : Int32).toInt = 1 from by decide]
      have e2 : (lz + 1).toInt = lz.toInt + 1 := by rw [ti_add (by rw [show (1 : Int32).toInt = 1 from by decide]; omega) (by rw [show (1 : Int32).toInt = 1 from by decide]; omega), show (1 : Int32).toInt = 1 from by decide]
      have go : ∀ tz', (fX9_feed_23 th dc tl xl fo fa mn ft wl tp wa wb wc wd we n (k + 1) tz' (lz + 1)).1 = 1 ∧ (fX9_feed_23 th dc tl xl fo fa mn ft wl tp wa wb wc wd we n (k + 1) tz' (lz + 1)).2.2.1.toInt = lz.toInt + (20 - k.toInt) := fun tz' => by
        have q := ih (k + 1) tz' (lz + 1) (by omega) (by omega) (by omega) (by omega) (by omega) _ rfl
        exact ⟨q.1, by rw [q.2]; omega⟩
      repeat' split at hr
      all_goals (subst hr; exact go _)
/-- feed of the reference -/
theorem fd_model {th dc tl xl fo fa mn ft wl wa wb wc wd we : Int32} {tp : Nat → Int32} (h0 : 0 ≤ tl.toInt) (h1 : tl.toInt ≤ 3000) : ∀ r, r = fX9_feed th dc tl xl fo fa mn ft wl tp wa wb wc wd we → (tl.toInt + 20 ≤ 3000 ∧ r.1 = 1 ∧ r.2.2.1.toInt = tl.toInt + 20) ∨ (3000 < tl.toInt + 20 ∧ r.1 = 0 ∧ r.2.2.1 = tl) := by
  intro r hr
  have e : (tl + 20).toInt = tl.toInt + 20 := by rw [ti_add (by rw [show (20 : Int32).toInt = 20 from by decide]; omega) (by rw [show (20 : Int32).toInt = 20 from by decide]; omega), show (20 : Int32).toInt = 20 from by decide]
  unfold fX9_feed at hr
  by_cases c : (tl + 20) ≤ 3000
  · rw [if_pos c] at hr
    have c := i_le c
    rw [show (3000 : Int32).toInt = 3000 from by decide] at c
    have q := fd23 21 0 tp tl (by decide) (by decide) (by decide) h0 (by rw [Int32.toInt_zero]; omega) r hr
    rw [Int32.toInt_zero] at q
    exact Or.inl ⟨by omega, q.1, by rw [q.2]; omega⟩
  · rw [if_neg c] at hr
    have c := i_nle c
    rw [show (3000 : Int32).toInt = 3000 from by decide] at c
    subst hr
    exact Or.inr ⟨by omega, rfl, rfl⟩
