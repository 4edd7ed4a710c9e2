def B6 (x : Int32) : Prop := 0 ≤ x.toInt ∧ x.toInt ≤ 999999
def B2 (x : Int32) : Prop := 0 ≤ x.toInt ∧ x.toInt ≤ 99
/-- what both sides have alike between segments: the line, what was told last, the count -/
def RA (li a0 a1 a2 a3 a4 cn : Int32) (la : Nat → Int64) (dc : Int32) : Prop := (li.toInt64 = la 0 ∧ L9 li) ∧ (a0.toInt64 = la 1 ∧ B6 a0) ∧ (a1.toInt64 = la 2 ∧ B2 a1) ∧ (a2.toInt64 = la 3 ∧ B6 a2) ∧ (a3.toInt64 = la 4 ∧ B6 a3) ∧ (a4.toInt64 = la 5 ∧ B2 a4) ∧ cn = dc ∧ 0 ≤ dc.toInt ∧ dc.toInt ≤ 300
/-- the rows: what is in a table of the class, and in the draft -/
def NSj (t0 t1 t2 t3 t4 : Nat → Int32) (j : Nat) : Prop := 0 ≤ (t1 j).toInt ∧ (0 ≤ (t2 j).toInt → 0 ≤ (t3 j).toInt ∧ 0 ≤ (t4 j).toInt) ∧ ∀ i : Nat, i ≤ j → (t0 i).toInt ≤ (t0 j).toInt
def RW (cn : Int32) (t0 t1 t2 t3 t4 t5 : Nat → Int32) (dr : Nat → Int32) : Prop := ∀ j : Nat, (j : Int) < cn.toInt → dr (6 * j) = t0 j ∧ dr (6 * j + 1) = t1 j ∧ dr (6 * j + 2) = t2 j ∧ (0 ≤ (t2 j).toInt → dr (6 * j + 3) = t3 j ∧ dr (6 * j + 4) = t4 j) ∧ dr (6 * j + 5) = t5 j ∧ NSj t0 t1 t2 t3 t4 j
/-- the last row stands at or ahead of the place that is reached -/
def LR (cn : Int32) (t0 t1 : Nat → Int32) (li a0 : Int32) : Prop := ∀ j : Nat, (j : Int) + 1 = cn.toInt → (t0 j).toInt < li.toInt ∨ ((t0 j).toInt = li.toInt ∧ (t1 j).toInt ≤ a0.toInt)
theorem wi99 (x : Int64) : fX8_isWithin x 99 = fX9_within x 99 := by
  unfold fX8_isWithin fX9_within
  rw [show (99 : Int32).toInt64 = 99 from by decide]
theorem wi6 (x : Int64) : fX8_isWithin x 999999 = fX9_within x 999999 := by
  unfold fX8_isWithin fX9_within
  rw [show (999999 : Int32).toInt64 = 999999 from by decide]
theorem wit {x m : Int64} (h : 0 ≤ x.toInt) : fX9_within x m = if (lg_cmp x m) ≤ 0 then 1 else 0 := by
  unfold fX9_within
  rw [if_neg (fun q => by rw [lg_cmp_lt, Int64.lt_iff_toInt_lt, show (0 : Int64).toInt = 0 from by decide] at q; omega)]
  by_cases c : 0 < lg_cmp x m
  · rw [if_pos c, if_neg (fun q => by have a := i_lt c; have b := i_le q; omega)]
  · rw [if_neg c, if_pos (Int32.le_iff_toInt_le.mpr (i_nlt c))]
theorem wib {x m : Int64} (h : ¬ fX9_within x m = 0) : 0 ≤ x.toInt ∧ x.toInt ≤ m.toInt := by
  unfold fX9_within at h
  split at h
  · exact absurd rfl h
  · rename_i h1
    split at h
    · exact absurd rfl h
    · rename_i h2
      rw [lg_cmp_lt, Int64.lt_iff_toInt_lt, show (0 : Int64).toInt = 0 from by decide] at h1
      rw [lg_cmp_gt, Int64.lt_iff_toInt_lt] at h2
      omega
theorem i3264 {x : Int64} (h0 : -2147483648 ≤ x.toInt) (h1 : x.toInt ≤ 2147483647) : (x.toInt32).toInt64 = x ∧ (x.toInt32).toInt = x.toInt := by
  have e : (x.toInt32).toInt = x.toInt := by rw [Int64.toInt_toInt32]; exact Int.bmod_eq_of_le (by omega) (by omega)
  exact ⟨Int64.toInt_inj.mp (by rw [Int32.toInt_toInt64, e]), e⟩
/-- what is put at the table's end -/
theorem ins_end {cn : Int32} {t0 t1 t2 t3 t4 t5 : Nat → Int32} {g0 g1 g2 g3 g4 g5 : Int32} (h0 : 0 ≤ cn.toInt) (h1 : cn.toInt < 300) (hl : ∀ j : Nat, (j : Int) + 1 = cn.toInt → (t0 j).toInt < g0.toInt ∨ ((t0 j).toInt = g0.toInt ∧ (t1 j).toInt ≤ g1.toInt)) : fX4_insert cn t0 t1 t2 t3 t4 t5 g0 g1 g2 g3 g4 g5 = (cn + 1, upd t0 cn.toNatClampNeg g0, upd t1 cn.toNatClampNeg g1, upd t2 cn.toNatClampNeg g2, upd t3 cn.toNatClampNeg g3, upd t4 cn.toNatClampNeg g4, upd t5 cn.toNatClampNeg g5) := by
  have hcp : ∀ t : Nat → Int32, va_cpy t t cn.toNatClampNeg (cn + 1).toNatClampNeg (cn - cn).toNatClampNeg = t := fun t => by
    funext k
    unfold va_cpy
    rw [show (cn - cn).toNatClampNeg = 0 from by rw [show cn - cn = 0 from Int32.sub_self cn]; decide]
    exact if_neg (by omega)
  have hg : fX4_makeGap cn t0 t1 t2 t3 t4 t5 cn = (t0, t1, t2, t3, t4, t5) := by
    unfold fX4_makeGap
    rw [hcp, hcp, hcp, hcp, hcp, hcp]
  have hf : fX4_isFull cn = 0 := by
    unfold fX4_isFull
    rw [if_pos (Int32.lt_iff_toInt_lt.mpr (by rw [show (300 : Int32).toInt = 300 from by decide]; exact h1))]
  unfold fX4_insert
  simp only [bnd]
  rw [hf, if_pos rfl, show (301 : Nat) = 300 + 1 from rfl, fX4_insert_13]
  simp only [bnd]
  by_cases c : cn ≤ 0
  · rw [if_pos c, hg]
  · rw [if_neg c]
    have c := i_nle c
    rw [Int32.toInt_zero] at c
    have e1 : (cn - 1).toInt = cn.toInt - 1 := by rw [ti_sub (by rw [show (1 : Int32).toInt = 1 from by decide]; omega) (by rw [show (1 : Int32).toInt = 1 from by decide]; omega), show (1 : Int32).toInt = 1 from by decide]
    have hb : fX4_isBeyond cn t0 t1 g0 g1 g2 g3 g4 g5 (cn - 1) = 0 := by
      have hj := hl (cn - 1).toNatClampNeg (by show (((cn - 1).toInt.toNat : Nat) : Int) + 1 = cn.toInt; omega)
      unfold fX4_isBeyond
      rw [if_neg (fun q => by have := i_lt q; omega)]
      by_cases q : t0 (cn - 1).toNatClampNeg = g0
      · rw [if_pos q, if_pos (Int32.le_iff_toInt_le.mpr (by have := i_eq q; omega))]
      · rw [if_neg q]
    rw [hb, if_pos rfl, hg]
