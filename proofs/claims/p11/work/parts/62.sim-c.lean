abbrev s_core (S : RS) : Int32 × Int32 × Int32 × Int32 × Int32 × Int32 × Int32 × Int32 × Int32 × (Nat → Int32) × (Nat → Int32) × (Nat → Int32) × (Nat → Int32) × (Nat → Int32) × (Nat → Int32) := (s_ib S, s_li S, s_ff S, s_a0 S, s_a1 S, s_a2 S, s_a3 S, s_a4 S, s_cn S, s_t0 S, s_t1 S, s_t2 S, s_t3 S, s_t4 S, s_t5 S)
def TapeEq (ln : Int32) (bt tp : Nat → Int32) : Prop := ∀ j : Nat, (j : Int) < ln.toInt → bt j = tp j ∧ -128 ≤ (tp j).toInt ∧ (tp j).toInt ≤ 127
theorem s_byte {b : Int32} (h0 : -128 ≤ b.toInt) (h1 : b.toInt ≤ 127) : s_chP b = true := by
  have h := s_chAll (b.toInt + 128).toNat (by omega)
  rw [show (((b.toInt + 128).toNat : Nat) : Int) - 128 = b.toInt from by omega, Int32.ofInt_toInt] at h
  exact h
theorem s_chk {b : Int32} (h0 : -128 ≤ b.toInt) (h1 : b.toInt ≤ 127) : fJ0_indexOf_0f7a4 (s_ch b) = fX9_worth b ∧ (s_ch b = 44 ↔ b = 44) ∧ (s_ch b = 59 ↔ b = 59) ∧ (b = 44 → fX9_worth b = -1) ∧ (b = 59 → fX9_worth b = -1) := by
  have h := s_byte h0 h1
  unfold s_chP at h
  simp only [Bool.and_eq_true, decide_eq_true_eq, beq_iff_eq, decide_eq_decide] at h
  exact ⟨h.1.1.1.1, h.1.1.1.2, h.1.1.2, h.1.2, h.2⟩
theorem and1 (v : Int64) : v &&& 1 = 0 ∨ v &&& 1 = 1 := by
  have h : (v.toBitVec &&& 1#64) = 0#64 ∨ (v.toBitVec &&& 1#64) = 1#64 := by
    rw [BitVec.and_one_eq_setWidth_ofBool_getLsbD]
    cases v.toBitVec.getLsbD 0
    · exact Or.inl (by decide)
    · exact Or.inr (by decide)
  rcases h with h | h
  · exact Or.inl (Int64.toBitVec_inj.mp (by rw [Int64.toBitVec_and]; exact h))
  · exact Or.inr (Int64.toBitVec_inj.mp (by rw [Int64.toBitVec_and]; exact h))
/-- the number that is under way: not begun, or open -/
def NumRel (S : RS) (x pp : Int32) (v : Int64) (sh be : Int32) : Prop := (s_n0 S = 0 ∧ pp = x ∧ v = 0 ∧ sh = 0 ∧ be = 0) ∨ (¬ s_n0 S = 0 ∧ s_n1 S = x ∧ s_n2 S = v ∧ s_n4 S = be ∧ (be = 0 ∨ be = 1) ∧ ((sh.toInt < 35 ∧ s_n3 S = sh) ∨ (35 ≤ sh.toInt ∧ 30 < (s_n3 S).toInt)) ∧ (s_nc S = 0 → s_ss S = x))
def sh_n (be : Int32) (sh w : Int32) : Int32 := if 35 ≤ sh then (if be = 0 then (if (lg_cmp (((w &&& 31) : Int32).toInt64) 0) = 0 then 0 else 1) else 1) else be
def sh_v (v : Int64) (sh w : Int32) : Int64 := if 35 ≤ sh then v else (v ||| (((((w &&& 31) : Int32).toInt64) : Int64) <<< ((sh : Int32).toInt64 &&& 63)))
theorem w0_64 {w : Int32} : (lg_cmp (((w &&& 31) : Int32).toInt64) 0) = 0 ↔ (w &&& 31) = 0 := by
  rw [lg_cmp_eq]
  constructor
  · intro h
    have h := congrArg Int64.toInt h
    rw [Int32.toInt_toInt64] at h
    exact Int32.toInt_inj.mp (by rw [h]; decide)
  · intro h
    rw [h]; decide
theorem or_pos {a b : Int64} (ha : 0 ≤ a.toInt) (hb : 0 ≤ b.toInt) : 0 ≤ (a ||| b).toInt := by
  have h1 : a.toBitVec.msb = false := by rw [BitVec.msb_eq_toInt]; exact decide_eq_false (by show ¬ a.toInt < 0; omega)
  have h2 : b.toBitVec.msb = false := by rw [BitVec.msb_eq_toInt]; exact decide_eq_false (by show ¬ b.toInt < 0; omega)
  have h3 : (a ||| b).toBitVec.msb = false := by rw [Int64.toBitVec_or, BitVec.msb_or, h1, h2]; rfl
  rw [BitVec.msb_eq_toInt] at h3
  have h4 := of_decide_eq_false h3
  show 0 ≤ (a ||| b).toBitVec.toInt
  omega
theorem sl_all : ∀ i : Nat, i < 7 → ∀ d : Nat, d < 32 → decide (0 ≤ ((((nI d).toInt64) : Int64) <<< (((nI (5 * i)) : Int32).toInt64 &&& 63)).toInt) = true := by decide +kernel
theorem sv_pos {v : Int64} {sh w : Int32} (hv : 0 ≤ v.toInt) (h5 : sh.toInt % 5 = 0) (h0 : 0 ≤ sh.toInt) : 0 ≤ (sh_v v sh w).toInt := by
  unfold sh_v
  by_cases c : (35 : Int32) ≤ sh
  · rw [if_pos c]; exact hv
  · rw [if_neg c]
    have c := i_nle c
    rw [show (35 : Int32).toInt = 35 from by decide] at c
    obtain ⟨j, hj, e⟩ := pk_andE w (m := 31) 5 (by decide)
    have e2 : sh = nI (5 * (sh.toInt.toNat / 5)) := Int32.toInt_inj.mp (by rw [nI_toInt (by omega)]; omega)
    refine or_pos hv ?_
    rw [e, e2]
    exact of_decide_eq_true (sl_all _ (by omega) j (by omega))
theorem half {v : Int64} (hv : 0 ≤ v.toInt) : ((v : Int64) >>> ((1 : Int32).toInt64 &&& 63)).toInt = v.toInt / 2 := by
  have h : ((v : Int64) >>> ((1 : Int32).toInt64 &&& 63)).toInt = (v.toBitVec.sshiftRight 1).toInt := by
    rw [show ((1 : Int32).toInt64 &&& 63) = 1 from by decide]
    rfl
  rw [h, BitVec.toInt_sshiftRight]
  show v.toInt >>> 1 = v.toInt / 2
  rw [Int.shiftRight_eq_div_pow]
  rfl
/-- one digit: what the class has then -/
theorem s_take {S : RS} {x pp w : Int32} {v : Int64} {sh be : Int32} (h : NumRel S x pp v sh be) (h5 : sh.toInt % 5 = 0) (hs0 : 0 ≤ sh.toInt) (hs1 : sh.toInt ≤ 20000) : ∀ r, r = s_tke S w pp → r.2.1 = x ∧ r.2.2.1 = sh_v v sh w ∧ r.2.2.2.2 = sh_n be sh w ∧ (r.1 = 0 ↔ w < 32) ∧ ((sh.toInt + 5 < 35 ∧ r.2.2.2.1 = sh + 5) ∨ (35 ≤ sh.toInt + 5 ∧ 30 < r.2.2.2.1.toInt)) ∧ (s_nc S = 0 → s_st S pp = x) := by
  intro r hr
  unfold s_tke fX1_take at hr
  have e5 : (sh + 5).toInt = sh.toInt + 5 := by rw [ti_add (by rw [show (5 : Int32).toInt = 5 from by decide]; omega) (by rw [show (5 : Int32).toInt = 5 from by decide]; omega), show (5 : Int32).toInt = 5 from by decide]
  unfold sh_v sh_n s_st
  rcases h with ⟨k0, k1, k2, k3, k4⟩ | ⟨k0, k1, k2, k3, k4, k5, k6⟩
  · subst k1; subst k2; subst k3; subst k4
    rw [if_pos k0] at hr
    have c9 : ¬ (35 : Int32) ≤ 0 := by decide
    simp only [if_neg c9, if_pos k0]
    by_cases c : w < 32
    · rw [if_pos c] at hr
      subst hr
      exact ⟨rfl, rfl, rfl, ⟨fun _ => c, fun _ => rfl⟩, Or.inl ⟨by decide, rfl⟩, fun q => by rw [if_pos q]⟩
    · rw [if_neg c] at hr
      subst hr
      exact ⟨rfl, rfl, rfl, ⟨fun q => absurd q (show ¬ (1 : Int32) = 0 by decide), fun q => absurd q c⟩, Or.inl ⟨by decide, rfl⟩, fun q => by rw [if_pos q]⟩
  · rw [if_neg k0] at hr
    simp only [if_neg k0]
    have kst : s_nc S = 0 → (if s_nc S = 0 then s_ss S else s_ss S) = x := fun q => by rw [if_pos q]; exact k6 q
    rcases k5 with ⟨a1, a2⟩ | ⟨a1, a2⟩
    · have c1 : ¬ (30 : Int32) < s_n3 S := fun q => by have q := i_lt q; rw [a2, show (30 : Int32).toInt = 30 from by decide] at q; omega
      have c2 : ¬ (35 : Int32) ≤ sh := fun q => by have q := i_le q; rw [show (35 : Int32).toInt = 35 from by decide] at q; omega
      rw [if_neg c1] at hr
      simp only [if_neg c2]
      have hsh : (sh.toInt + 5 < 35 ∧ (s_n3 S + 5) = sh + 5) ∨ (35 ≤ sh.toInt + 5 ∧ 30 < (s_n3 S + 5).toInt) := by
        by_cases c3 : sh.toInt + 5 < 35
        · exact Or.inl ⟨c3, by rw [a2]⟩
        · exact Or.inr ⟨by omega, by rw [a2, e5]; omega⟩
      by_cases c : w < 32
      · rw [if_pos c] at hr
        subst hr
        exact ⟨k1, by rw [← k2, ← a2], k3, ⟨fun _ => c, fun _ => rfl⟩, hsh, kst⟩
      · rw [if_neg c] at hr
        subst hr
        exact ⟨k1, by rw [← k2, ← a2], k3, ⟨fun q => absurd q (show ¬ (1 : Int32) = 0 by decide), fun q => absurd q c⟩, hsh, kst⟩
    · have c1 : (30 : Int32) < s_n3 S := Int32.lt_iff_toInt_lt.mpr (by rw [show (30 : Int32).toInt = 30 from by decide]; exact a2)
      have c2 : (35 : Int32) ≤ sh := Int32.le_iff_toInt_le.mpr (by rw [show (35 : Int32).toInt = 35 from by decide]; exact a1)
      rw [if_pos c1] at hr
      simp only [if_pos c2]
      have hsh : (sh.toInt + 5 < 35 ∧ s_n3 S = sh + 5) ∨ (35 ≤ sh.toInt + 5 ∧ 30 < (s_n3 S).toInt) := Or.inr ⟨by omega, a2⟩
      by_cases c0 : (w &&& 31) = 0
      · rw [if_pos c0] at hr
        have hbe : be = if be = 0 then (if (lg_cmp (((w &&& 31) : Int32).toInt64) 0) = 0 then 0 else 1) else 1 := by
          rw [if_pos (w0_64.mpr c0)]
          rcases k4 with q | q
          · rw [if_pos q]; exact q
          · rw [if_neg (by rw [q]; decide)]; exact q
        by_cases c : w < 32
        · rw [if_pos c] at hr
          subst hr
          exact ⟨k1, k2, by show s_n4 S = _; rw [k3]; exact hbe, ⟨fun _ => c, fun _ => rfl⟩, hsh, kst⟩
        · rw [if_neg c] at hr
          subst hr
          exact ⟨k1, k2, by show s_n4 S = _; rw [k3]; exact hbe, ⟨fun q => absurd q (show ¬ (1 : Int32) = 0 by decide), fun q => absurd q c⟩, hsh, kst⟩
      · rw [if_neg c0] at hr
        have hbe : (1 : Int32) = if be = 0 then (if (lg_cmp (((w &&& 31) : Int32).toInt64) 0) = 0 then 0 else 1) else 1 := by
          rw [if_neg (fun q => c0 (w0_64.mp q))]
          rcases k4 with q | q
          · rw [if_pos q]
          · rw [if_neg (by rw [q]; decide)]
        by_cases c : w < 32
        · rw [if_pos c] at hr
          subst hr
          exact ⟨k1, k2, hbe, ⟨fun _ => c, fun _ => rfl⟩, hsh, kst⟩
        · rw [if_neg c] at hr
          subst hr
          exact ⟨k1, k2, hbe, ⟨fun q => absurd q (show ¬ (1 : Int32) = 0 by decide), fun q => absurd q c⟩, hsh, kst⟩
