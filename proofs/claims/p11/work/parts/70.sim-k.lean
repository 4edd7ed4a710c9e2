def R0 (S : RS) (la : Nat → Int64) (dc : Int32) (dr : Nat → Int32) : Prop := s_ff S = 0 ∧ s_n0 S = 0 ∧ RA (s_li S) (s_a0 S) (s_a1 S) (s_a2 S) (s_a3 S) (s_a4 S) (s_cn S) la dc ∧ RW (s_cn S) (s_t0 S) (s_t1 S) (s_t2 S) (s_t3 S) (s_t4 S) (s_t5 S) dr ∧ LR (s_cn S) (s_t0 S) (s_t1 S) (s_li S) (s_a0 S)
def NB (S : RS) (mn : Int32) (nu : Nat → Int64) : Prop := ∀ j : Nat, j < 5 → (j : Int) < mn.toInt → s_nb S j = nu j ∧ -2147483647 ≤ (nu j).toInt ∧ (nu j).toInt ≤ 2147483647
def ROut (foz : Int32) (R : RS) (w : Int32 × Int32 × Int32 × Int32 × Int32 × (Nat → Int32) × (Nat → Int64) × (Nat → Int64)) : Prop := (w.1 = 0 ∧ ¬ s_ff R = 0 ∧ s_ff R = w.2.2.1 ∧ s_fp R = w.2.2.2.1) ∨ (w.1 = 1 ∧ s_ff R = 0 ∧ w.2.2.1 = foz ∧ s_cn R = w.2.1 ∧ RW (s_cn R) (s_t0 R) (s_t1 R) (s_t2 R) (s_t3 R) (s_t4 R) (s_t5 R) w.2.2.2.2.2.1)
theorem line_up {S : RS} {la : Nat → Int64} {dc : Int32} {r : AO} {k : Int32} (hA : RA (s_li S) r.2.2.1 r.2.2.2.1 r.2.2.2.2.1 r.2.2.2.2.2.1 r.2.2.2.2.2.2.1 r.2.2.2.2.2.2.2.2.2.2.2.2.2.1 la dc) (hff : r.1 = 0) (x1 x2 x3 : Int32) : ((lg_cmp (la (0 : Int32).toNatClampNeg) 199) = 0 ∧ fX2_startLine x1 x2 x3 (s_li S) r.1 r.2.1 r.2.2.1 r.2.2.2.1 r.2.2.2.2.1 r.2.2.2.2.2.1 r.2.2.2.2.2.2.1 k = (s_li S, 5, k, r.2.2.1)) ∨ (¬ (lg_cmp (la (0 : Int32).toNatClampNeg) 199) = 0 ∧ fX2_startLine x1 x2 x3 (s_li S) r.1 r.2.1 r.2.2.1 r.2.2.2.1 r.2.2.2.2.1 r.2.2.2.2.2.1 r.2.2.2.2.2.2.1 k = (s_li S + 1, 0, r.2.1, 0) ∧ RA (s_li S + 1) 0 r.2.2.2.1 r.2.2.2.2.1 r.2.2.2.2.2.1 r.2.2.2.2.2.2.1 r.2.2.2.2.2.2.2.2.2.2.2.2.2.1 (vp_updL (vp_updL la (0 : Int32).toNatClampNeg ((la (0 : Int32).toNatClampNeg) + 1)) (1 : Int32).toNatClampNeg 0) dc ∧ (s_li S + 1).toInt = (s_li S).toInt + 1) := by
  obtain ⟨⟨hli, hli9⟩, ha0, ha1, ha2, ha3, ha4, hcn, hd0, hd1⟩ := hA
  have h0 := hli9.1
  have h1 := hli9.2
  have e64 : (la 0).toInt = (s_li S).toInt := by rw [← hli, Int32.toInt_toInt64]
  have ec : (lg_cmp (la (0 : Int32).toNatClampNeg) 199) = 0 ↔ (s_li S).toInt = 199 := by
    rw [lg_cmp_eq]
    show la 0 = 199 ↔ _
    constructor
    · intro q; rw [← e64, q]; decide
    · intro q; exact Int64.toInt_inj.mp (by rw [e64, q]; decide)
  unfold fX2_startLine fX2_refuse fX0_startLine
  simp only [bnd]
  rw [if_pos hff]
  by_cases c : s_li S < 199
  · have c9 := i_lt c
    rw [show (199 : Int32).toInt = 199 from by decide] at c9
    have e : (s_li S + 1).toInt = (s_li S).toInt + 1 := by rw [ti_add (by rw [show (1 : Int32).toInt = 1 from by decide]; omega) (by rw [show (1 : Int32).toInt = 1 from by decide]; omega), show (1 : Int32).toInt = 1 from by decide]
    right
    rw [if_pos c, hff]
    refine ⟨fun q => by have := ec.mp q; omega, rfl, ⟨⟨?_, ?_⟩, ⟨rfl, by unfold B6; decide⟩, ha1, ha2, ha3, ha4, hcn, hd0, hd1⟩, e⟩
    · show (s_li S + 1).toInt64 = la 0 + 1
      refine Int64.toInt_inj.mp ?_
      rw [Int32.toInt_toInt64, e, Int64.toInt_add, e64, show (1 : Int64).toInt = 1 from by decide]
      exact (Int.bmod_eq_of_le (by omega) (by omega)).symm
    · unfold L9; rw [e]; omega
  · have c9 := i_nlt c
    rw [show (199 : Int32).toInt = 199 from by decide] at c9
    left
    rw [if_neg c]
    exact ⟨ec.mpr (by omega), rfl⟩
