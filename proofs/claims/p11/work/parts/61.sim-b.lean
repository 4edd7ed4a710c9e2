abbrev NO : Type := Int32 × Int32 × Int64 × Int32 × Int32
def s_st (S : RS) (k : Int32) : Int32 := if s_nc S = 0 then (if s_n0 S = 0 then k else s_ss S) else s_ss S
def s_num (S : RS) (k : Int32) (r : NO) : RS := (s_nc S, s_st S k, s_ib S, s_li S, s_ff S, s_fp S, r.1, r.2.1, r.2.2.1, r.2.2.2.1, r.2.2.2.2, s_nb S, s_a0 S, s_a1 S, s_a2 S, s_a3 S, s_a4 S, s_g0 S, s_g1 S, s_g2 S, s_g3 S, s_g4 S, s_g5 S, s_cn S, s_t0 S, s_t1 S, s_t2 S, s_t3 S, s_t4 S, s_t5 S)
def s_big (S : RS) (k : Int32) (r : NO) : RS := (s_nc S, s_st S k, s_ib S, s_li S, 2, r.2.1, r.1, r.2.1, r.2.2.1, r.2.2.2.1, r.2.2.2.2, s_nb S, s_a0 S, s_a1 S, s_a2 S, s_a3 S, s_a4 S, s_g0 S, s_g1 S, s_g2 S, s_g3 S, s_g4 S, s_g5 S, s_cn S, s_t0 S, s_t1 S, s_t2 S, s_t3 S, s_t4 S, s_t5 S)
def s_done (S : RS) (k : Int32) (r : NO) : RS := (s_nc S + 1, s_st S k, s_ib S, s_li S, s_ff S, s_fp S, r.1, r.2.1, r.2.2.1, r.2.2.2.1, r.2.2.2.2, (if 5 ≤ s_nc S then s_nb S else vp_updL (s_nb S) (s_nc S).toNatClampNeg (fX1_value r.1 r.2.1 r.2.2.1 r.2.2.2.1 r.2.2.2.2)), s_a0 S, s_a1 S, s_a2 S, s_a3 S, s_a4 S, s_g0 S, s_g1 S, s_g2 S, s_g3 S, s_g4 S, s_g5 S, s_cn S, s_t0 S, s_t1 S, s_t2 S, s_t3 S, s_t4 S, s_t5 S)
def s_tke (S : RS) (d k : Int32) : NO := fX1_take (s_n0 S) (s_n1 S) (s_n2 S) (s_n3 S) (s_n4 S) d k
theorem s_tk_dig (S : RS) (x k d : Int32) (h1 : fJ0_indexOf_0f7a4 x = d) (h2 : ¬ d < 0) : ∀ r, r = s_tke S d k → s_tk S x k = if r.1 = 0 then (if fX1_isTooLarge r.1 r.2.1 r.2.2.1 r.2.2.2.1 r.2.2.2.2 = 0 then s_done S k r else s_big S k r) else s_num S k r := by
  intro r hr
  unfold s_tke at hr
  unfold s_tk fX2_takeCharacter s_done s_big s_num s_st
  simp only [bnd]
  rw [h1, if_neg h2]
  unfold fX2_takeDigit fX2_refuse
  simp only [bnd]
  rw [← hr]
  by_cases c1 : s_nc S = 0
  · skip
    by_cases c2 : s_n0 S = 0
    · skip
      by_cases c3 : r.1 = 0
      · skip
        by_cases c4 : fX1_isTooLarge r.1 r.2.1 r.2.2.1 r.2.2.2.1 r.2.2.2.2 = 0
        · skip
          by_cases c5 : 5 ≤ s_nc S
          · skip
            simp only [if_pos c1, if_pos c2, if_pos c3, if_pos c4, if_pos c5]
          · skip
            simp only [if_pos c1, if_pos c2, if_pos c3, if_pos c4, if_neg c5]
        · skip
          by_cases c5 : 5 ≤ s_nc S
          · skip
            simp only [if_pos c1, if_pos c2, if_pos c3, if_neg c4, if_pos c5]
          · skip
            simp only [if_pos c1, if_pos c2, if_pos c3, if_neg c4, if_neg c5]
      · skip
        by_cases c4 : fX1_isTooLarge r.1 r.2.1 r.2.2.1 r.2.2.2.1 r.2.2.2.2 = 0
        · skip
          by_cases c5 : 5 ≤ s_nc S
          · skip
            simp only [if_pos c1, if_pos c2, if_neg c3, if_pos c4, if_pos c5]
          · skip
            simp only [if_pos c1, if_pos c2, if_neg c3, if_pos c4, if_neg c5]
        · skip
          by_cases c5 : 5 ≤ s_nc S
          · skip
            simp only [if_pos c1, if_pos c2, if_neg c3, if_neg c4, if_pos c5]
          · skip
            simp only [if_pos c1, if_pos c2, if_neg c3, if_neg c4, if_neg c5]
    · skip
      by_cases c3 : r.1 = 0
      · skip
        by_cases c4 : fX1_isTooLarge r.1 r.2.1 r.2.2.1 r.2.2.2.1 r.2.2.2.2 = 0
        · skip
          by_cases c5 : 5 ≤ s_nc S
          · skip
            simp only [if_pos c1, if_neg c2, if_pos c3, if_pos c4, if_pos c5]
          · skip
            simp only [if_pos c1, if_neg c2, if_pos c3, if_pos c4, if_neg c5]
        · skip
          by_cases c5 : 5 ≤ s_nc S
          · skip
            simp only [if_pos c1, if_neg c2, if_pos c3, if_neg c4, if_pos c5]
          · skip
            simp only [if_pos c1, if_neg c2, if_pos c3, if_neg c4, if_neg c5]
      · skip
        by_cases c4 : fX1_isTooLarge r.1 r.2.1 r.2.2.1 r.2.2.2.1 r.2.2.2.2 = 0
        · skip
          by_cases c5 : 5 ≤ s_nc S
          · skip
            simp only [if_pos c1, if_neg c2, if_neg c3, if_pos c4, if_pos c5]
          · skip
            simp only [if_pos c1, if_neg c2, if_neg c3, if_pos c4, if_neg c5]
        · skip
          by_cases c5 : 5 ≤ s_nc S
          · skip
            simp only [if_pos c1, if_neg c2, if_neg c3, if_neg c4, if_pos c5]
          · skip
            simp only [if_pos c1, if_neg c2, if_neg c3, if_neg c4, if_neg c5]
  · skip
    by_cases c2 : s_n0 S = 0
    · skip
      by_cases c3 : r.1 = 0
      · skip
        by_cases c4 : fX1_isTooLarge r.1 r.2.1 r.2.2.1 r.2.2.2.1 r.2.2.2.2 = 0
        · skip
          by_cases c5 : 5 ≤ s_nc S
          · skip
            simp only [if_neg c1, if_pos c2, if_pos c3, if_pos c4, if_pos c5]
          · skip
            simp only [if_neg c1, if_pos c2, if_pos c3, if_pos c4, if_neg c5]
        · skip
          by_cases c5 : 5 ≤ s_nc S
          · skip
            simp only [if_neg c1, if_pos c2, if_pos c3, if_neg c4, if_pos c5]
          · skip
            simp only [if_neg c1, if_pos c2, if_pos c3, if_neg c4, if_neg c5]
      · skip
        by_cases c4 : fX1_isTooLarge r.1 r.2.1 r.2.2.1 r.2.2.2.1 r.2.2.2.2 = 0
        · skip
          by_cases c5 : 5 ≤ s_nc S
          · skip
            simp only [if_neg c1, if_pos c2, if_neg c3, if_pos c4, if_pos c5]
          · skip
            simp only [if_neg c1, if_pos c2, if_neg c3, if_pos c4, if_neg c5]
        · skip
          by_cases c5 : 5 ≤ s_nc S
          · skip
            simp only [if_neg c1, if_pos c2, if_neg c3, if_neg c4, if_pos c5]
          · skip
            simp only [if_neg c1, if_pos c2, if_neg c3, if_neg c4, if_neg c5]
    · skip
      by_cases c3 : r.1 = 0
      · skip
        by_cases c4 : fX1_isTooLarge r.1 r.2.1 r.2.2.1 r.2.2.2.1 r.2.2.2.2 = 0
        · skip
          by_cases c5 : 5 ≤ s_nc S
          · skip
            simp only [if_neg c1, if_neg c2, if_pos c3, if_pos c4, if_pos c5]
          · skip
            simp only [if_neg c1, if_neg c2, if_pos c3, if_pos c4, if_neg c5]
        · skip
          by_cases c5 : 5 ≤ s_nc S
          · skip
            simp only [if_neg c1, if_neg c2, if_pos c3, if_neg c4, if_pos c5]
          · skip
            simp only [if_neg c1, if_neg c2, if_pos c3, if_neg c4, if_neg c5]
      · skip
        by_cases c4 : fX1_isTooLarge r.1 r.2.1 r.2.2.1 r.2.2.2.1 r.2.2.2.2 = 0
        · skip
          by_cases c5 : 5 ≤ s_nc S
          · skip
            simp only [if_neg c1, if_neg c2, if_neg c3, if_pos c4, if_pos c5]
          · skip
            simp only [if_neg c1, if_neg c2, if_neg c3, if_pos c4, if_neg c5]
        · skip
          by_cases c5 : 5 ≤ s_nc S
          · skip
            simp only [if_neg c1, if_neg c2, if_neg c3, if_neg c4, if_pos c5]
          · skip
            simp only [if_neg c1, if_neg c2, if_neg c3, if_neg c4, if_neg c5]
def s_com (S : RS) (r : EO) : RS := (r.1, s_ss S, 1, s_li S, r.2.1, r.2.2.1, s_n0 S, s_n1 S, s_n2 S, s_n3 S, s_n4 S, s_nb S, r.2.2.2.1, r.2.2.2.2.1, r.2.2.2.2.2.1, r.2.2.2.2.2.2.1, r.2.2.2.2.2.2.2.1, r.2.2.2.2.2.2.2.2.1, r.2.2.2.2.2.2.2.2.2.1, r.2.2.2.2.2.2.2.2.2.2.1, r.2.2.2.2.2.2.2.2.2.2.2.1, r.2.2.2.2.2.2.2.2.2.2.2.2.1, r.2.2.2.2.2.2.2.2.2.2.2.2.2.1, r.2.2.2.2.2.2.2.2.2.2.2.2.2.2.1, r.2.2.2.2.2.2.2.2.2.2.2.2.2.2.2.1, r.2.2.2.2.2.2.2.2.2.2.2.2.2.2.2.2.1, r.2.2.2.2.2.2.2.2.2.2.2.2.2.2.2.2.2.1, r.2.2.2.2.2.2.2.2.2.2.2.2.2.2.2.2.2.2.1, r.2.2.2.2.2.2.2.2.2.2.2.2.2.2.2.2.2.2.2.1, r.2.2.2.2.2.2.2.2.2.2.2.2.2.2.2.2.2.2.2.2)
def s_sem (S : RS) (r : EO) (q : Int32 × Int32 × Int32 × Int32) : RS := (r.1, s_ss S, 0, q.1, q.2.1, q.2.2.1, s_n0 S, s_n1 S, s_n2 S, s_n3 S, s_n4 S, s_nb S, q.2.2.2, r.2.2.2.2.1, r.2.2.2.2.2.1, r.2.2.2.2.2.2.1, r.2.2.2.2.2.2.2.1, r.2.2.2.2.2.2.2.2.1, r.2.2.2.2.2.2.2.2.2.1, r.2.2.2.2.2.2.2.2.2.2.1, r.2.2.2.2.2.2.2.2.2.2.2.1, r.2.2.2.2.2.2.2.2.2.2.2.2.1, r.2.2.2.2.2.2.2.2.2.2.2.2.2.1, r.2.2.2.2.2.2.2.2.2.2.2.2.2.2.1, r.2.2.2.2.2.2.2.2.2.2.2.2.2.2.2.1, r.2.2.2.2.2.2.2.2.2.2.2.2.2.2.2.2.1, r.2.2.2.2.2.2.2.2.2.2.2.2.2.2.2.2.2.1, r.2.2.2.2.2.2.2.2.2.2.2.2.2.2.2.2.2.2.1, r.2.2.2.2.2.2.2.2.2.2.2.2.2.2.2.2.2.2.2.1, r.2.2.2.2.2.2.2.2.2.2.2.2.2.2.2.2.2.2.2.2)
theorem s_tk_com (S : RS) (k : Int32) : s_tk S 44 k = s_com S (s_es S 1 k) := by
  unfold s_tk fX2_takeCharacter
  simp only [bnd]
  rw [if_pos (by decide +kernel), if_pos trivial]
  rfl
theorem s_tk_sem (S : RS) (k : Int32) : ∀ r, r = s_es S 0 k → s_tk S 59 k = s_sem S r (fX2_startLine r.1 (s_ss S) 0 (s_li S) r.2.1 r.2.2.1 r.2.2.2.1 r.2.2.2.2.1 r.2.2.2.2.2.1 r.2.2.2.2.2.2.1 r.2.2.2.2.2.2.2.1 k) := by
  intro r hr
  subst hr
  unfold s_tk fX2_takeCharacter
  simp only [bnd]
  rw [if_pos (by decide +kernel), if_neg (by decide), if_pos trivial]
  rfl
theorem s_tk_bad (S : RS) (x k : Int32) (h1 : fJ0_indexOf_0f7a4 x < 0) (h2 : ¬ x = 44) (h3 : ¬ x = 59) : s_tk S x k = (s_nc S, s_ss S, s_ib S, s_li S, 1, k, s_n0 S, s_n1 S, s_n2 S, s_n3 S, s_n4 S, s_nb S, s_a0 S, s_a1 S, s_a2 S, s_a3 S, s_a4 S, s_g0 S, s_g1 S, s_g2 S, s_g3 S, s_g4 S, s_g5 S, s_cn S, s_t0 S, s_t1 S, s_t2 S, s_t3 S, s_t4 S, s_t5 S) := by
  unfold s_tk fX2_takeCharacter
  simp only [bnd]
  rw [if_pos h1, if_neg h2, if_neg h3]
  rfl
theorem s_es_open (S : RS) (x y : Int32) (h : ¬ s_n0 S = 0) : s_es S x y = (0, 2, y, s_a0 S, s_a1 S, s_a2 S, s_a3 S, s_a4 S, s_g0 S, s_g1 S, s_g2 S, s_g3 S, s_g4 S, s_g5 S, s_cn S, s_t0 S, s_t1 S, s_t2 S, s_t3 S, s_t4 S, s_t5 S) := by
  unfold s_es fX2_endSegment
  simp only [bnd]
  rw [if_neg h]
  rfl
theorem s_es_none (S : RS) (y : Int32) (h : s_n0 S = 0) (h1 : s_nc S = 0) (h2 : s_ib S = 0) : s_es S 0 y = (0, s_ff S, s_fp S, s_a0 S, s_a1 S, s_a2 S, s_a3 S, s_a4 S, s_g0 S, s_g1 S, s_g2 S, s_g3 S, s_g4 S, s_g5 S, s_cn S, s_t0 S, s_t1 S, s_t2 S, s_t3 S, s_t4 S, s_t5 S) := by
  unfold s_es fX2_endSegment
  simp only [bnd]
  rw [if_pos h, if_pos (by rw [h1]; decide), if_pos trivial, if_pos h2]
theorem s_es_ref (S : RS) (x y : Int32) (h : s_n0 S = 0) (h1 : s_nc S = 0) (h2 : ¬ x = 0 ∨ ¬ s_ib S = 0) : s_es S x y = (0, 3, y, s_a0 S, s_a1 S, s_a2 S, s_a3 S, s_a4 S, s_g0 S, s_g1 S, s_g2 S, s_g3 S, s_g4 S, s_g5 S, s_cn S, s_t0 S, s_t1 S, s_t2 S, s_t3 S, s_t4 S, s_t5 S) := by
  unfold s_es fX2_endSegment
  simp only [bnd]
  rw [if_pos h, if_pos (by rw [h1]; decide)]
  by_cases c : x = 0
  · rw [if_pos c, if_neg (h2.resolve_left (fun q => q c))]
    rfl
  · rw [if_neg c]
    rfl
abbrev AO : Type := Int32 × Int32 × Int32 × Int32 × Int32 × Int32 × Int32 × Int32 × Int32 × Int32 × Int32 × Int32 × Int32 × Int32 × (Nat → Int32) × (Nat → Int32) × (Nat → Int32) × (Nat → Int32) × (Nat → Int32) × (Nat → Int32)
def s_as (S : RS) : AO := fX2_addSegment (s_nc S) (s_ss S) (s_ib S) (s_li S) (s_ff S) (s_fp S) (s_nb S) (s_a0 S) (s_a1 S) (s_a2 S) (s_a3 S) (s_a4 S) (s_g0 S) (s_g1 S) (s_g2 S) (s_g3 S) (s_g4 S) (s_g5 S) (s_cn S) (s_t0 S) (s_t1 S) (s_t2 S) (s_t3 S) (s_t4 S) (s_t5 S)
theorem s_es_add (S : RS) (x y : Int32) (h : s_n0 S = 0) (h1 : ¬ s_nc S ≤ 0) : s_es S x y = (0, s_as S) := by
  unfold s_es fX2_endSegment
  simp only [bnd]
  rw [if_pos h, if_neg h1]
  rfl
