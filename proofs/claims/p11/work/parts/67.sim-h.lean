theorem i6432 (x : Int32) : (x.toInt64).toInt32 = x := by
  refine Int32.toInt_inj.mp ?_
  have h0 := Int32.le_toInt x
  have h1 := Int32.toInt_lt x
  rw [Int64.toInt_toInt32, Int32.toInt_toInt64]
  exact Int.bmod_eq_of_le (by omega) (by omega)
theorem m217 {th dc tl xl fo fa mn ft wl x gd : Int32} {dr : Nat → Int32} {nu la lz : Nat → Int64} : fX9_segment_217 th dc tl xl fo fa mn ft wl dr nu la x 1 gd lz = m_tail dc fo fa x gd dr (upd (upd (upd (upd (upd (upd dr (6 * dc).toNatClampNeg ((lz (0 : Int32).toNatClampNeg : Int64).toInt32)) ((6 * dc) + 1).toNatClampNeg ((lz (1 : Int32).toNatClampNeg : Int64).toInt32)) ((6 * dc) + 2).toNatClampNeg (if mn = 1 then (-1) else (lz (2 : Int32).toNatClampNeg : Int64).toInt32)) ((6 * dc) + 3).toNatClampNeg (if mn = 1 then 0 else (lz (3 : Int32).toNatClampNeg : Int64).toInt32)) ((6 * dc) + 4).toNatClampNeg (if mn = 1 then 0 else (lz (4 : Int32).toNatClampNeg : Int64).toInt32)) ((6 * dc) + 5).toNatClampNeg (if mn = 5 then (lz (5 : Int32).toNatClampNeg : Int64).toInt32 else (-1))) lz := by
  rw [show (1 : Nat) = 0 + 1 from rfl, fX9_segment_217]
  simp only [bnd, fX9_fails]
  unfold m_tail
  by_cases c0 : gd = 0
  · rw [if_pos c0, if_pos c0]
  · rw [if_neg c0, if_neg c0]
    by_cases c1 : dc = 300
    · rw [if_pos c1, if_pos c1]
    · rw [if_neg c1, if_neg c1]
      by_cases c2 : mn = 1
      · by_cases c3 : mn = 5
        · simp only [if_pos c2, if_pos c3]
        · simp only [if_pos c2, if_neg c3]
      · by_cases c3 : mn = 5
        · simp only [if_neg c2, if_pos c3]
        · simp only [if_neg c2, if_neg c3]
theorem up_0 (S : RS) (h : (lg_cmp (s_nb S (0 : Int32).toNatClampNeg) 0) < 0 ∨ ¬ (lg_cmp ((s_a0 S).toInt64 + (s_nb S (0 : Int32).toNatClampNeg)) 999999) ≤ 0) : (s_up S).1 = 0 := by
  unfold s_up fX2_addUp
  simp only [bnd]
  by_cases c0 : (lg_cmp (s_nb S (0 : Int32).toNatClampNeg) 0) < 0
  · rw [if_pos c0]
  · rw [if_neg c0, if_neg (h.resolve_left c0)]
theorem up_1 (S : RS) (hn : s_nc S = 1) (c0 : ¬ (lg_cmp (s_nb S (0 : Int32).toNatClampNeg) 0) < 0) (c1 : (lg_cmp ((s_a0 S).toInt64 + (s_nb S (0 : Int32).toNatClampNeg)) 999999) ≤ 0) : s_up S = (1, s_li S, ((((s_a0 S).toInt64 + (s_nb S (0 : Int32).toNatClampNeg)) : Int64).toInt32), -1, -1, -1, -1) := by
  unfold s_up fX2_addUp
  simp only [bnd]
  rw [if_neg c0, if_pos c1, if_neg (by rw [hn]; decide)]
  rfl
theorem up_4 (S : RS) (hn : s_nc S = 4) (c0 : ¬ (lg_cmp (s_nb S (0 : Int32).toNatClampNeg) 0) < 0) (c1 : (lg_cmp ((s_a0 S).toInt64 + (s_nb S (0 : Int32).toNatClampNeg)) 999999) ≤ 0) : (¬ fX9_within ((s_a1 S).toInt64 + (s_nb S (1 : Int32).toNatClampNeg)) 99 = 0 ∧ ¬ fX9_within ((s_a2 S).toInt64 + (s_nb S (2 : Int32).toNatClampNeg)) 999999 = 0 ∧ ¬ fX9_within ((s_a3 S).toInt64 + (s_nb S (3 : Int32).toNatClampNeg)) 999999 = 0 ∧ s_up S = (1, s_li S, ((((s_a0 S).toInt64 + (s_nb S (0 : Int32).toNatClampNeg)) : Int64).toInt32), ((((s_a1 S).toInt64 + (s_nb S (1 : Int32).toNatClampNeg)) : Int64).toInt32), ((((s_a2 S).toInt64 + (s_nb S (2 : Int32).toNatClampNeg)) : Int64).toInt32), ((((s_a3 S).toInt64 + (s_nb S (3 : Int32).toNatClampNeg)) : Int64).toInt32), -1)) ∨ ((fX9_within ((s_a1 S).toInt64 + (s_nb S (1 : Int32).toNatClampNeg)) 99 = 0 ∨ fX9_within ((s_a2 S).toInt64 + (s_nb S (2 : Int32).toNatClampNeg)) 999999 = 0 ∨ fX9_within ((s_a3 S).toInt64 + (s_nb S (3 : Int32).toNatClampNeg)) 999999 = 0) ∧ (s_up S).1 = 0) := by
  unfold s_up fX2_addUp
  simp only [bnd, wi99, wi6]
  rw [if_neg c0, if_pos c1, if_pos (by rw [hn]; decide), if_neg (by rw [hn]; decide)]
  by_cases w1 : fX9_within ((s_a1 S).toInt64 + (s_nb S (1 : Int32).toNatClampNeg)) 99 = 0
  · rw [if_pos w1]; exact Or.inr ⟨Or.inl w1, rfl⟩
  · rw [if_neg w1]
    by_cases w2 : fX9_within ((s_a2 S).toInt64 + (s_nb S (2 : Int32).toNatClampNeg)) 999999 = 0
    · rw [if_pos w2]; exact Or.inr ⟨Or.inr (Or.inl w2), rfl⟩
    · rw [if_neg w2]
      by_cases w3 : fX9_within ((s_a3 S).toInt64 + (s_nb S (3 : Int32).toNatClampNeg)) 999999 = 0
      · rw [if_pos w3]; exact Or.inr ⟨Or.inr (Or.inr w3), rfl⟩
      · rw [if_neg w3, if_neg (show ¬ fX9_within 0 99 = 0 by decide)]
        exact Or.inl ⟨w1, w2, w3, rfl⟩
theorem up_5 (S : RS) (hn : s_nc S = 5) (c0 : ¬ (lg_cmp (s_nb S (0 : Int32).toNatClampNeg) 0) < 0) (c1 : (lg_cmp ((s_a0 S).toInt64 + (s_nb S (0 : Int32).toNatClampNeg)) 999999) ≤ 0) : (¬ fX9_within ((s_a1 S).toInt64 + (s_nb S (1 : Int32).toNatClampNeg)) 99 = 0 ∧ ¬ fX9_within ((s_a2 S).toInt64 + (s_nb S (2 : Int32).toNatClampNeg)) 999999 = 0 ∧ ¬ fX9_within ((s_a3 S).toInt64 + (s_nb S (3 : Int32).toNatClampNeg)) 999999 = 0 ∧ ¬ fX9_within ((s_a4 S).toInt64 + (s_nb S (4 : Int32).toNatClampNeg)) 99 = 0 ∧ s_up S = (1, s_li S, ((((s_a0 S).toInt64 + (s_nb S (0 : Int32).toNatClampNeg)) : Int64).toInt32), ((((s_a1 S).toInt64 + (s_nb S (1 : Int32).toNatClampNeg)) : Int64).toInt32), ((((s_a2 S).toInt64 + (s_nb S (2 : Int32).toNatClampNeg)) : Int64).toInt32), ((((s_a3 S).toInt64 + (s_nb S (3 : Int32).toNatClampNeg)) : Int64).toInt32), ((((s_a4 S).toInt64 + (s_nb S (4 : Int32).toNatClampNeg)) : Int64).toInt32))) ∨ ((fX9_within ((s_a1 S).toInt64 + (s_nb S (1 : Int32).toNatClampNeg)) 99 = 0 ∨ fX9_within ((s_a2 S).toInt64 + (s_nb S (2 : Int32).toNatClampNeg)) 999999 = 0 ∨ fX9_within ((s_a3 S).toInt64 + (s_nb S (3 : Int32).toNatClampNeg)) 999999 = 0 ∨ fX9_within ((s_a4 S).toInt64 + (s_nb S (4 : Int32).toNatClampNeg)) 99 = 0) ∧ (s_up S).1 = 0) := by
  unfold s_up fX2_addUp
  simp only [bnd, wi99, wi6]
  rw [if_neg c0, if_pos c1, if_pos (by rw [hn]; decide), if_pos (by rw [hn]; decide)]
  by_cases w1 : fX9_within ((s_a1 S).toInt64 + (s_nb S (1 : Int32).toNatClampNeg)) 99 = 0
  · rw [if_pos w1]; exact Or.inr ⟨Or.inl w1, rfl⟩
  · rw [if_neg w1]
    by_cases w2 : fX9_within ((s_a2 S).toInt64 + (s_nb S (2 : Int32).toNatClampNeg)) 999999 = 0
    · rw [if_pos w2]; exact Or.inr ⟨Or.inr (Or.inl w2), rfl⟩
    · rw [if_neg w2]
      by_cases w3 : fX9_within ((s_a3 S).toInt64 + (s_nb S (3 : Int32).toNatClampNeg)) 999999 = 0
      · rw [if_pos w3]; exact Or.inr ⟨Or.inr (Or.inr (Or.inl w3)), rfl⟩
      · rw [if_neg w3]
        by_cases w4 : fX9_within ((s_a4 S).toInt64 + (s_nb S (4 : Int32).toNatClampNeg)) 99 = 0
        · rw [if_pos w4]; exact Or.inr ⟨Or.inr (Or.inr (Or.inr w4)), rfl⟩
        · rw [if_neg w4]
          refine Or.inl ⟨w1, w2, w3, w4, ?_⟩
          unfold fX3_tell
          rw [if_pos (Int32.le_iff_toInt_le.mpr (by rw [Int32.toInt_zero]; have b := wib w4; rw [(i3264 (by omega) (by have := b.2; rw [show (99 : Int64).toInt = 99 from by decide] at this; omega)).2]; exact b.1))]
          rfl
