theorem fc_at {lf : Int32} {bt : Nat → Int32} {ln wa wb wc wd we : Int32} (h0 : 0 ≤ ln.toInt) (h1 : ln.toInt + 20 ≤ 3000) : ∀ r, r = fX8_feed lf bt ln wa wb wc wd we → ∀ j : Nat, r.2.2 j = if ln.toInt.toNat ≤ j ∧ j < ln.toInt.toNat + 20 then bw (wd5 wa wb wc wd we (j - ln.toInt.toNat)) (nI (24 - 8 * ((j - ln.toInt.toNat) % 4))) else bt j := by
  intro r hr j
  have e : (ln + 20).toInt = ln.toInt + 20 := by rw [ti_add (by rw [show (20 : Int32).toInt = 20 from by decide]; omega) (by rw [show (20 : Int32).toInt = 20 from by decide]; omega), show (20 : Int32).toInt = 20 from by decide]
  unfold fX8_feed fX5_hasRoomForFive at hr
  simp only [bnd] at hr
  have c9 : ¬ (3000 : Int32) < ln + 20 := fun q => by have q := i_lt q; rw [e, show (3000 : Int32).toInt = 3000 from by decide] at q; omega
  rw [if_neg c9, if_neg (by decide)] at hr
  have a1 := app4 (bt := bt) (ln := ln) (x := wa) h0 (by omega)
  have b1 := a4_at (bt := bt) (ln := ln) (x := wa) h0 (by omega)
  generalize fX5_appendFour bt ln wa = r1 at a1 b1 hr
  have a2 := app4 (bt := r1.2) (ln := r1.1) (x := wb) (by omega) (by omega)
  have b2 := a4_at (bt := r1.2) (ln := r1.1) (x := wb) (by omega) (by omega)
  generalize fX5_appendFour r1.2 r1.1 wb = r2 at a2 b2 hr
  have a3 := app4 (bt := r2.2) (ln := r2.1) (x := wc) (by omega) (by omega)
  have b3 := a4_at (bt := r2.2) (ln := r2.1) (x := wc) (by omega) (by omega)
  generalize fX5_appendFour r2.2 r2.1 wc = r3 at a3 b3 hr
  have a4 := app4 (bt := r3.2) (ln := r3.1) (x := wd) (by omega) (by omega)
  have b4 := a4_at (bt := r3.2) (ln := r3.1) (x := wd) (by omega) (by omega)
  generalize fX5_appendFour r3.2 r3.1 wd = r4 at a4 b4 hr
  have b5 := a4_at (bt := r4.2) (ln := r4.1) (x := we) (by omega) (by omega)
  generalize fX5_appendFour r4.2 r4.1 we = r5 at b5 hr
  subst hr
  show r5.2 j = _
  have n1 : r1.1.toInt.toNat = ln.toInt.toNat + 4 := by omega
  have n2 : r2.1.toInt.toNat = ln.toInt.toNat + 8 := by omega
  have n3 : r3.1.toInt.toNat = ln.toInt.toNat + 12 := by omega
  have n4 : r4.1.toInt.toNat = ln.toInt.toNat + 16 := by omega
  rw [b5 j, b4 j, b3 j, b2 j, b1 j, n1, n2, n3, n4]
  generalize ln.toInt.toNat = q
  unfold wd5
  by_cases c : q ≤ j ∧ j < q + 20
  · rw [if_pos c]
    by_cases c5 : q + 16 ≤ j ∧ j < q + 16 + 4
    · rw [if_pos c5, if_neg (by omega), if_neg (by omega), if_neg (by omega), if_neg (by omega), show (j - q) % 4 = j - (q + 16) by omega]
    · rw [if_neg c5]
      by_cases c4 : q + 12 ≤ j ∧ j < q + 12 + 4
      · rw [if_pos c4, if_neg (by omega), if_neg (by omega), if_neg (by omega), if_pos (by omega), show (j - q) % 4 = j - (q + 12) by omega]
      · rw [if_neg c4]
        by_cases c3 : q + 8 ≤ j ∧ j < q + 8 + 4
        · rw [if_pos c3, if_neg (by omega), if_neg (by omega), if_pos (by omega), show (j - q) % 4 = j - (q + 8) by omega]
        · rw [if_neg c3]
          by_cases c2 : q + 4 ≤ j ∧ j < q + 4 + 4
          · rw [if_pos c2, if_neg (by omega), if_pos (by omega), show (j - q) % 4 = j - (q + 4) by omega]
          · rw [if_neg c2, if_pos (by omega), if_pos (by omega), show (j - q) % 4 = j - q by omega]
  · rw [if_neg c, if_neg (by omega), if_neg (by omega), if_neg (by omega), if_neg (by omega), if_neg (by omega)]
theorem bw_rng (w s : Int32) : -128 ≤ (bw w s).toInt ∧ (bw w s).toInt ≤ 127 := by
  show -128 ≤ ((((w >>> (s &&& 31)) : Int32).toInt8.toInt32).toInt8.toInt32).toInt ∧ ((((w >>> (s &&& 31)) : Int32).toInt8.toInt32).toInt8.toInt32).toInt ≤ 127
  generalize ((((w >>> (s &&& 31)) : Int32).toInt8.toInt32).toInt8) = y
  rw [Int8.toInt_toInt32]
  have a := Int8.le_toInt y
  have b := Int8.toInt_lt y
  omega
/-- feed keeps the bytes alike -/
theorem tp_feed {lf : Int32} {bt tp : Nat → Int32} {th dc ln xl fo fa mn ft wl wa wb wc wd we : Int32} (h0 : 0 ≤ ln.toInt) (h1 : ln.toInt ≤ 3000) (ht : TapeEq ln bt tp) : ∀ r, r = fX8_feed lf bt ln wa wb wc wd we → ∀ q, q = fX9_feed th dc ln xl fo fa mn ft wl tp wa wb wc wd we → TapeEq r.2.1 r.2.2 q.2.2.2 := by
  intro r hr q hq
  have f1 := fd_class h0 h1 r hr
  by_cases c : ln.toInt + 20 ≤ 3000
  · have e : (ln + 20).toInt = ln.toInt + 20 := by rw [ti_add (by rw [show (20 : Int32).toInt = 20 from by decide]; omega) (by rw [show (20 : Int32).toInt = 20 from by decide]; omega), show (20 : Int32).toInt = 20 from by decide]
    have hc := fc_at h0 c r hr
    have hm : ∀ j : Nat, q.2.2.2 j = if ln.toInt.toNat ≤ j ∧ j < ln.toInt.toNat + (20 - 0) then bw (wd5 wa wb wc wd we (0 + (j - ln.toInt.toNat))) (nI (24 - 8 * ((0 + (j - ln.toInt.toNat)) % 4))) else tp j := by
      intro j
      unfold fX9_feed at hq
      rw [if_pos (Int32.le_iff_toInt_le.mpr (by rw [e, show (3000 : Int32).toInt = 3000 from by decide]; omega))] at hq
      rw [hq]
      exact fm_at 21 0 tp ln (by omega) (by omega) h0 (by omega) j
    have hl : r.2.1.toInt = ln.toInt + 20 := by
      rcases f1 with f | f
      · exact f.2.2
      · omega
    intro j hj
    rw [hc j, hm j, Nat.zero_add, Nat.sub_zero]
    by_cases a : ln.toInt.toNat ≤ j ∧ j < ln.toInt.toNat + 20
    · rw [if_pos a, if_pos a]
      exact ⟨rfl, bw_rng _ _⟩
    · rw [if_neg a, if_neg a]
      exact ht j (by omega)
  · have e : (ln + 20).toInt = ln.toInt + 20 := by rw [ti_add (by rw [show (20 : Int32).toInt = 20 from by decide]; omega) (by rw [show (20 : Int32).toInt = 20 from by decide]; omega), show (20 : Int32).toInt = 20 from by decide]
    have hr2 : r.2.1 = ln ∧ r.2.2 = bt := by
      unfold fX8_feed fX5_hasRoomForFive at hr
      simp only [bnd] at hr
      have c8 : (3000 : Int32) < ln + 20 := Int32.lt_iff_toInt_lt.mpr (by rw [e, show (3000 : Int32).toInt = 3000 from by decide]; omega)
      rw [if_pos c8, if_pos rfl] at hr
      subst hr
      exact ⟨rfl, rfl⟩
    have hq2 : q.2.2.2 = tp := by
      unfold fX9_feed at hq
      rw [if_neg (fun z => by have z := i_le z; rw [e, show (3000 : Int32).toInt = 3000 from by decide] at z; omega)] at hq
      subst hq
      rfl
    rw [hr2.1, hr2.2, hq2]
    exact ht
theorem tp_less {bt tp : Nat → Int32} {ln l' : Int32} (ht : TapeEq ln bt tp) (h : l'.toInt ≤ ln.toInt) : TapeEq l' bt tp := fun j hj => ht j (by omega)
