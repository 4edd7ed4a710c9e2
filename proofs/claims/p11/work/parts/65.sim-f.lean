theorem c6 {dc : Int32} (h0 : 0 ≤ dc.toInt) (h1 : dc.toInt ≤ 300) (c : Nat) (hc : c < 6) : ((6 * dc) + nI c).toNatClampNeg = 6 * dc.toNatClampNeg + c := by
  have e6 := six h0 (by omega)
  have e : ((6 * dc) + nI c).toInt = 6 * dc.toInt + c := by rw [ti_add (by rw [nI_toInt (by omega)]; omega) (by rw [nI_toInt (by omega)]; omega), nI_toInt (by omega), e6]
  show ((6 * dc) + nI c).toInt.toNat = 6 * dc.toInt.toNat + c
  omega
theorem c60 {dc : Int32} (h0 : 0 ≤ dc.toInt) (h1 : dc.toInt ≤ 300) : (6 * dc).toNatClampNeg = 6 * dc.toNatClampNeg := by
  have e6 := six h0 (by omega)
  show (6 * dc).toInt.toNat = 6 * dc.toInt.toNat
  omega
/-- a row more, on both sides -/
theorem RW_push {dc : Int32} {t0 t1 t2 t3 t4 t5 dr : Nat → Int32} {g0 g1 g2 g3 g4 g5 x3 x4 : Int32} (h0 : 0 ≤ dc.toInt) (h1 : dc.toInt < 300) (h : RW dc t0 t1 t2 t3 t4 t5 dr) (hx : 0 ≤ g2.toInt → x3 = g3 ∧ x4 = g4) (hn : 0 ≤ g1.toInt ∧ (0 ≤ g2.toInt → 0 ≤ g3.toInt ∧ 0 ≤ g4.toInt)) (hs : ∀ j : Nat, (j : Int) + 1 = dc.toInt → (t0 j).toInt ≤ g0.toInt) : RW (dc + 1) (upd t0 dc.toNatClampNeg g0) (upd t1 dc.toNatClampNeg g1) (upd t2 dc.toNatClampNeg g2) (upd t3 dc.toNatClampNeg g3) (upd t4 dc.toNatClampNeg g4) (upd t5 dc.toNatClampNeg g5) (upd (upd (upd (upd (upd (upd dr (6 * dc).toNatClampNeg g0) ((6 * dc) + 1).toNatClampNeg g1) ((6 * dc) + 2).toNatClampNeg g2) ((6 * dc) + 3).toNatClampNeg x3) ((6 * dc) + 4).toNatClampNeg x4) ((6 * dc) + 5).toNatClampNeg g5) := by
  have e0 := c60 h0 (by omega)
  have e1 : ((6 * dc) + 1).toNatClampNeg = 6 * dc.toNatClampNeg + 1 := c6 h0 (by omega) 1 (by omega)
  have e2 : ((6 * dc) + 2).toNatClampNeg = 6 * dc.toNatClampNeg + 2 := c6 h0 (by omega) 2 (by omega)
  have e3 : ((6 * dc) + 3).toNatClampNeg = 6 * dc.toNatClampNeg + 3 := c6 h0 (by omega) 3 (by omega)
  have e4 : ((6 * dc) + 4).toNatClampNeg = 6 * dc.toNatClampNeg + 4 := c6 h0 (by omega) 4 (by omega)
  have e5 : ((6 * dc) + 5).toNatClampNeg = 6 * dc.toNatClampNeg + 5 := c6 h0 (by omega) 5 (by omega)
  have e : (dc + 1).toInt = dc.toInt + 1 := by rw [ti_add (by rw [show (1 : Int32).toInt = 1 from by decide]; omega) (by rw [show (1 : Int32).toInt = 1 from by decide]; omega), show (1 : Int32).toInt = 1 from by decide]
  have ed : (dc.toNatClampNeg : Int) = dc.toInt := by show ((dc.toInt.toNat : Nat) : Int) = dc.toInt; omega
  rw [e0, e1, e2, e3, e4, e5]
  generalize dc.toNatClampNeg = d at ed ⊢
  intro j hj
  rw [e] at hj
  have hF : NSj (upd t0 d g0) (upd t1 d g1) (upd t2 d g2) (upd t3 d g3) (upd t4 d g4) j := by
    have lo : ∀ i : Nat, (i : Int) < dc.toInt → (t0 i).toInt ≤ g0.toInt := fun i hi => by
      have h1 := hs (d - 1) (by omega)
      have h2 := (h (d - 1) (by omega)).2.2.2.2.2.2.2 i (by omega)
      omega
    unfold NSj upd
    by_cases q : j = d
    · refine ⟨by rw [if_pos q]; exact hn.1, by rw [if_pos q, if_pos q, if_pos q]; exact hn.2, fun i hi => ?_⟩
      by_cases r : i = d
      · rw [if_pos r, if_pos q]; exact Int.le_refl _
      · rw [if_neg r, if_pos q]; exact lo i (by omega)
    · have hj' := (h j (by omega)).2.2.2.2.2
      refine ⟨by rw [if_neg q]; exact hj'.1, by rw [if_neg q, if_neg q, if_neg q]; exact hj'.2.1, fun i hi => ?_⟩
      rw [if_neg q, if_neg (by omega)]
      exact hj'.2.2 i hi
  unfold upd
  by_cases q : j = d
  · subst q
    simp only [if_pos]
    refine ⟨?_, ?_, ?_, fun z => ⟨?_, ?_⟩, trivial, hF⟩
    · rw [if_neg (by omega), if_neg (by omega), if_neg (by omega), if_neg (by omega), if_neg (by omega)]
    · rw [if_neg (by omega), if_neg (by omega), if_neg (by omega), if_neg (by omega)]
    · rw [if_neg (by omega), if_neg (by omega), if_neg (by omega)]
    · rw [if_neg (by omega), if_neg (by omega)]; exact (hx z).1
    · rw [if_neg (by omega)]; exact (hx z).2
  · have hj' := h j (by omega)
    simp only [if_neg q]
    refine ⟨?_, ?_, ?_, fun z => ⟨?_, ?_⟩, ?_, hF⟩
    all_goals rw [if_neg (by omega), if_neg (by omega), if_neg (by omega), if_neg (by omega), if_neg (by omega), if_neg (by omega)]
    · exact hj'.1
    · exact hj'.2.1
    · exact hj'.2.2.1
    · exact (hj'.2.2.2.1 z).1
    · exact (hj'.2.2.2.1 z).2
    · exact hj'.2.2.2.2.1
theorem LR_push {dc li g1 : Int32} {t0 t1 : Nat → Int32} (h0 : 0 ≤ dc.toInt) (h1 : dc.toInt < 300) : LR (dc + 1) (upd t0 dc.toNatClampNeg li) (upd t1 dc.toNatClampNeg g1) li g1 := by
  have e : (dc + 1).toInt = dc.toInt + 1 := by rw [ti_add (by rw [show (1 : Int32).toInt = 1 from by decide]; omega) (by rw [show (1 : Int32).toInt = 1 from by decide]; omega), show (1 : Int32).toInt = 1 from by decide]
  have ed : (dc.toNatClampNeg : Int) = dc.toInt := by show ((dc.toInt.toNat : Nat) : Int) = dc.toInt; omega
  intro j hj
  rw [e] at hj
  have q : j = dc.toNatClampNeg := by omega
  subst q
  right
  unfold upd
  rw [if_pos rfl, if_pos rfl]
  exact ⟨rfl, Int.le_refl _⟩
