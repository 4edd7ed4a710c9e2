/-! written texts on both sides: characters and numbers -/
def TE (ln ov : Int32) (ch : Nat → Int32) (ft wl : Int32) (wr : Nat → Int32) : Prop := ln = wl ∧ (0 ≤ ln.toInt ∧ ln.toInt ≤ 6000) ∧ ((ov = 0 ∧ ¬ ft = 0) ∨ (¬ ov = 0 ∧ ft = 0)) ∧ ∀ j : Nat, (j : Int) < ln.toInt → ch j = wr j ∧ 0 ≤ (wr j).toInt ∧ (wr j).toInt ≤ 127
theorem nar_ok : ∀ n : Nat, n < 128 → (vp_nar .char (nI n) = nI n ∧ vp_nar .byte ((nI n).toInt8.toInt32) = nI n ∧ vp_nar .byte (nI n) = nI n) := by decide +kernel
theorem nI_ofI {c : Int32} (h : 0 ≤ c.toInt) : c = nI c.toInt.toNat := by
  have := Int32.toInt_lt c
  exact Int32.toInt_inj.mp (by rw [nI_toInt (by omega)]; omega)
theorem nar_c {c : Int32} (h0 : 0 ≤ c.toInt) (h1 : c.toInt ≤ 127) : vp_nar .char c = c ∧ vp_nar .byte (c.toInt8.toInt32) = c ∧ vp_nar .byte c = c := by
  have := nar_ok c.toInt.toNat (by omega)
  rw [← nI_ofI h0] at this
  exact this
theorem te_add {ln ov ft wl c th dc tl xl fo fa mn : Int32} {ch wr : Nat → Int32} (h : TE ln ov ch ft wl wr) (h0 : 0 ≤ c.toInt) (h1 : c.toInt ≤ 127) : ∀ a, a = fX6_append ch ln ov c → ∀ b, b = fX9_add th dc tl xl fo fa mn ft wl wr c → TE a.1 a.2.1 a.2.2 b.1 b.2.1 b.2.2 := by
  intro a ha b hb
  obtain ⟨e, ⟨l0, l1⟩, hf, ht⟩ := h
  subst e
  obtain ⟨n1, n2, _⟩ := nar_c h0 h1
  unfold fX6_append at ha
  unfold fX9_add at hb
  by_cases q : ln = 6000
  · rw [if_neg (fun z => by have := i_lt z; rw [q] at this; exact absurd this (by decide))] at ha
    rw [if_pos q] at hb
    subst ha hb
    exact ⟨rfl, ⟨l0, l1⟩, Or.inr ⟨(show ¬ (1 : Int32) = 0 by decide), rfl⟩, ht⟩
  · have q' := i_ne q
    rw [show (6000 : Int32).toInt = 6000 from by decide] at q'
    rw [if_pos (Int32.lt_iff_toInt_lt.mpr (by rw [show (6000 : Int32).toInt = 6000 from by decide]; omega)), n1] at ha
    rw [if_neg q, n2] at hb
    have e := iu_1 (k := ln) (K := ln.toInt.toNat) (by omega) (by omega)
    subst ha hb
    refine ⟨rfl, ⟨by show 0 ≤ (ln + 1).toInt; omega, by show (ln + 1).toInt ≤ 6000; omega⟩, hf, fun j hj => ?_⟩
    change (j : Int) < (ln + 1).toInt at hj
    show upd ch ln.toNatClampNeg c j = upd wr ln.toNatClampNeg c j ∧ _
    have ec : ln.toNatClampNeg = ln.toInt.toNat := rfl
    by_cases w : j = ln.toNatClampNeg
    · rw [w, upd_eq]
      show _ ∧ 0 ≤ (upd wr ln.toNatClampNeg c ln.toNatClampNeg).toInt ∧ (upd wr ln.toNatClampNeg c ln.toNatClampNeg).toInt ≤ 127
      rw [upd_eq]; exact ⟨rfl, h0, h1⟩
    · rw [upd_ne w, upd_ne w]
      show _ ∧ 0 ≤ (upd wr ln.toNatClampNeg c j).toInt ∧ (upd wr ln.toNatClampNeg c j).toInt ≤ 127
      rw [upd_ne w]
      exact ht j (by omega)
theorem let_ok : ∀ n : Nat, n < 64 → fX9_letter (nI n) = fJ0_charAt_5068e (nI n) ∧ 0 ≤ (fX9_letter (nI n)).toInt ∧ (fX9_letter (nI n)).toInt ≤ 127 := by decide +kernel
theorem nat_of {xx : Int64} {N : Nat} (h : xx.toInt = (N : Int)) : xx.toBitVec.toNat = N := by
  have h : xx.toBitVec.toInt = (N : Int) := h
  have h1 := BitVec.toInt_eq_toNat_cond xx.toBitVec
  have h2 := xx.toBitVec.isLt
  split at h1 <;> omega
theorem and31L {xx : Int64} {N : Nat} (h : xx.toInt = (N : Int)) : ((xx &&& 31 : Int64)).toInt32 = nI (N % 32) := by
  have h1 : (xx &&& 31).toBitVec.toNat = N % 32 := by
    rw [Int64.toBitVec_and, BitVec.toNat_and, nat_of h, show (31 : Int64).toBitVec.toNat = 2 ^ 5 - 1 from by decide, Nat.and_two_pow_sub_one_eq_mod]
  have h2 : (xx &&& 31).toInt = ((N % 32 : Nat) : Int) := by
    show (xx &&& 31).toBitVec.toInt = _
    rw [BitVec.toInt_eq_toNat_of_lt (by omega), h1]
  apply Int32.toInt_inj.mp
  rw [Int64.toInt_toInt32, h2, Int.bmod_eq_of_le (by omega) (by omega), nI_toInt (by omega)]
theorem n7_sim {ch wr : Nat → Int32} {ln ov x th dc tl xl fo fa mn ft wl : Int32} : ∀ (m N n n' : Nat) (k lz oz : Int32) (cz : Nat → Int32) (ftz wlz : Int32) (wz : Nat → Int32) (xx : Int64) (K : Nat), k.toInt = (K : Int) → K + m = 7 → 1 ≤ m → N < 32 ^ m → N < 2 ^ 32 → m < n → m + 1 < n' → xx.toInt = (N : Int) → TE lz oz cz ftz wlz wz → ∀ a, a = fX6_appendNumber_18 ch ln ov x n (nI N) k lz oz cz → ∀ b, b = fX9_addNumber_26 th dc tl xl fo fa mn ft wl wr x n' xx 1 wz wlz ftz → TE a.1 a.2.1 a.2.2 b.1 b.2.1 b.2.2 := by
  intro m
  induction m with
  | zero => intro N n n' k lz oz cz ftz wlz wz xx K _ _ h; exact absurd h (by omega)
  | succ m ih =>
    intro N n n' k lz oz cz ftz wlz wz xx K hk hK _ hN hN2 hn hn' hxx hT a ha b hb
    obtain ⟨n, rfl⟩ : ∃ q, n = q + 1 := ⟨n - 1, by omega⟩
    obtain ⟨n', rfl⟩ : ∃ q, n' = q + 1 := ⟨n' - 1, by omega⟩
    have hd : N / 32 < 2 ^ 31 := by omega
    have hmod : N % 32 < 32 := Nat.mod_lt _ (by omega)
    have e7 : (7 : Int32).toInt = 7 := by decide
    rw [fX6_appendNumber_18, if_neg (fun q => by have := i_le q; omega), pk_ushrN hN2 5 5 (by decide), pk_andN hN2 5 (by decide)] at ha
    rw [fX9_addNumber_26, if_neg (by decide), and31L hxx] at hb
    have hs : (xx >>> ((5 : Int32).toInt64 &&& 63)).toInt = ((N / 32 : Nat) : Int) := by rw [sh5, hxx]; omega
    have z64 : (0 : Int64).toInt = 0 := by decide
    simp only [bnd] at ha hb
    rw [show (2 : Nat) ^ 5 = 32 from rfl] at ha
    by_cases c : N / 32 = 0
    · rw [c, if_pos (show nI 0 = 0 from rfl)] at ha
      rw [if_pos ((lg_cmp_le _ _).mpr (Int64.le_iff_toInt_le.mpr (by rw [hs, z64]; omega)))] at hb
      obtain ⟨l1, l2, l3⟩ := let_ok (N % 32) (by omega)
      obtain ⟨n', rfl⟩ : ∃ q, n' = q + 1 := ⟨n' - 1, by omega⟩
      rw [← l1] at ha
      have q := te_add (th := th) (dc := dc) (tl := tl) (xl := xl) (fo := fo) (fa := fa) (mn := mn) hT l2 l3 _ rfl _ rfl
      rw [fX9_addNumber_26, if_pos rfl] at hb
      subst ha hb
      exact q
    · have c' : ¬ nI (N / 32) = 0 := fun q => by
        have := congrArg Int32.toInt q
        rw [nI_toInt (by omega), Int32.toInt_zero] at this
        omega
      rw [if_neg c'] at ha
      rw [if_neg (fun q => by
        have := Int64.le_iff_toInt_le.mp ((lg_cmp_le _ _).mp q)
        rw [hs, z64] at this
        omega)] at hb
      have e32 : nI (N % 32) + 32 = nI (N % 32 + 32) := nI_add (N % 32) 32
      rw [e32] at ha hb
      obtain ⟨l1, l2, l3⟩ := let_ok (N % 32 + 32) (by omega)
      rw [← l1] at ha
      have q := te_add (th := th) (dc := dc) (tl := tl) (xl := xl) (fo := fo) (fa := fa) (mn := mn) hT l2 l3 _ rfl _ rfl
      have hm : 1 ≤ m := by
        rcases Nat.eq_zero_or_pos m with z | z
        · rw [z] at hN; exact absurd hN (by omega)
        · exact z
      have hp : N / 32 < 32 ^ m := by
        rw [Nat.pow_succ] at hN
        exact Nat.div_lt_of_lt_mul (by rw [Nat.mul_comm]; exact hN)
      exact ih (N / 32) n n' (k + 1) _ _ _ _ _ _ _ (K + 1) (iu_1 hk (by omega)) (by omega) hm hp (by omega) (by omega) (by omega) hs q a ha b hb
theorem neg_2 {x : Int32} (h : x.toInt < 0) : (1 : Int32) - 2 * x = nI (1 + 2 * (-x.toInt).toNat) := by
  apply Int32.toInt_inj.mp
  have e : (nI (1 + 2 * (-x.toInt).toNat)).toInt = ((1 + 2 * (-x.toInt).toNat : Nat) : Int).bmod (2 ^ 32) := Int32.toInt_ofNat' ..
  rw [e, Int32.toInt_sub, Int32.toInt_mul, show (1 : Int32).toInt = 1 from by decide, show (2 : Int32).toInt = 2 from by decide, Int.sub_bmod_bmod]
  congr 1
  omega
theorem pos_2 {x : Int32} (h : 0 ≤ x.toInt) : (2 : Int32) * x = nI (2 * x.toInt.toNat) := by
  apply Int32.toInt_inj.mp
  have e : (nI (2 * x.toInt.toNat)).toInt = ((2 * x.toInt.toNat : Nat) : Int).bmod (2 ^ 32) := Int32.toInt_ofNat' ..
  rw [e, Int32.toInt_mul, show (2 : Int32).toInt = 2 from by decide]
  congr 1
  omega
/-- a number, written on both sides -/
theorem nb_both {ch wr : Nat → Int32} {ln ov x th dc tl xl fo fa mn ft wl : Int32} (hx : -2147483648 < x.toInt) (hT : TE ln ov ch ft wl wr) : ∀ a, a = fX6_appendNumber ch ln ov x → ∀ b, b = fX9_addNumber th dc tl xl fo fa mn ft wl wr x → TE a.1 a.2.1 a.2.2 b.1 b.2.1 b.2.2 := by
  intro a ha b hb
  have hb1 := Int32.toInt_lt x
  unfold fX6_appendNumber at ha
  unfold fX9_addNumber at hb
  by_cases c : 0 ≤ x
  · have c' := i_le c
    rw [Int32.toInt_zero] at c'
    rw [if_pos c, pos_2 c'] at ha
    rw [if_pos c] at hb
    exact n7_sim 7 (2 * x.toInt.toNat) 8 10 0 ln ov ch ft wl wr _ 0 (by decide) (by omega) (by omega) (by omega) (by omega) (by omega) (by omega) (by rw [an_p]; omega) hT a ha b hb
  · have c' := i_nle c
    rw [Int32.toInt_zero] at c'
    rw [if_neg c, neg_2 c'] at ha
    rw [if_neg c] at hb
    exact n7_sim 7 (1 + 2 * (-x.toInt).toNat) 8 10 0 ln ov ch ft wl wr _ 0 (by decide) (by omega) (by omega) (by omega) (by omega) (by omega) (by omega) (by rw [an_n]; omega) hT a ha b hb
