/-! the tape's bytes on both sides -/
abbrev bw (w s : Int32) : Int32 := vp_nar .byte (((w >>> (s &&& 31)) : Int32).toInt8.toInt32)
theorem by_24 (x : Int32) : vp_nar .byte ((((x : Int32).toUInt32 >>> (((24 : Int32) : Int32).toUInt32 &&& Int32.toUInt32 31)).toInt32 : Int32).toInt8.toInt32) = bw x (nI 24) := by
  have h : (((x : Int32).toUInt32 >>> (((24 : Int32) : Int32).toUInt32 &&& Int32.toUInt32 31)).toInt32 : Int32).toInt8 = ((x >>> ((nI 24) &&& 31)) : Int32).toInt8 := by
    apply Int8.toBitVec_inj.mp
    rw [Int32.toBitVec_toInt8, Int32.toBitVec_toInt8]
    rw [BitVec.signExtend_eq_setWidth_of_le _ (by decide), BitVec.signExtend_eq_setWidth_of_le _ (by decide)]
    apply BitVec.eq_of_getLsbD_eq
    intro i hi
    rw [BitVec.getLsbD_setWidth, BitVec.getLsbD_setWidth]
    rw [show (((x : Int32).toUInt32 >>> (((24 : Int32) : Int32).toUInt32 &&& Int32.toUInt32 31)).toInt32 : Int32).toBitVec = x.toBitVec >>> 24 from rfl]
    rw [show ((x >>> ((nI 24) &&& 31)) : Int32).toBitVec = x.toBitVec.sshiftRight 24 from rfl]
    rw [BitVec.getLsbD_ushiftRight, BitVec.getLsbD_sshiftRight]
    have h1 : 24 + i < 32 := by omega
    have h2 : i < 32 := by omega
    simp [h1, hi, h2]
  show vp_nar .byte _ = vp_nar .byte _
  rw [h]
theorem by_16 (x : Int32) : vp_nar .byte ((((x : Int32).toUInt32 >>> ((((24 : Int32) + (-8)) : Int32).toUInt32 &&& Int32.toUInt32 31)).toInt32 : Int32).toInt8.toInt32) = bw x (nI 16) := by
  have h : (((x : Int32).toUInt32 >>> ((((24 : Int32) + (-8)) : Int32).toUInt32 &&& Int32.toUInt32 31)).toInt32 : Int32).toInt8 = ((x >>> ((nI 16) &&& 31)) : Int32).toInt8 := by
    apply Int8.toBitVec_inj.mp
    rw [Int32.toBitVec_toInt8, Int32.toBitVec_toInt8]
    rw [BitVec.signExtend_eq_setWidth_of_le _ (by decide), BitVec.signExtend_eq_setWidth_of_le _ (by decide)]
    apply BitVec.eq_of_getLsbD_eq
    intro i hi
    rw [BitVec.getLsbD_setWidth, BitVec.getLsbD_setWidth]
    rw [show (((x : Int32).toUInt32 >>> ((((24 : Int32) + (-8)) : Int32).toUInt32 &&& Int32.toUInt32 31)).toInt32 : Int32).toBitVec = x.toBitVec >>> 16 from rfl]
    rw [show ((x >>> ((nI 16) &&& 31)) : Int32).toBitVec = x.toBitVec.sshiftRight 16 from rfl]
    rw [BitVec.getLsbD_ushiftRight, BitVec.getLsbD_sshiftRight]
    have h1 : 16 + i < 32 := by omega
    have h2 : i < 32 := by omega
    simp [h1, hi, h2]
  show vp_nar .byte _ = vp_nar .byte _
  rw [h]
theorem by_8 (x : Int32) : vp_nar .byte ((((x : Int32).toUInt32 >>> ((((24 : Int32) + (-8) + (-8)) : Int32).toUInt32 &&& Int32.toUInt32 31)).toInt32 : Int32).toInt8.toInt32) = bw x (nI 8) := by
  have h : (((x : Int32).toUInt32 >>> ((((24 : Int32) + (-8) + (-8)) : Int32).toUInt32 &&& Int32.toUInt32 31)).toInt32 : Int32).toInt8 = ((x >>> ((nI 8) &&& 31)) : Int32).toInt8 := by
    apply Int8.toBitVec_inj.mp
    rw [Int32.toBitVec_toInt8, Int32.toBitVec_toInt8]
    rw [BitVec.signExtend_eq_setWidth_of_le _ (by decide), BitVec.signExtend_eq_setWidth_of_le _ (by decide)]
    apply BitVec.eq_of_getLsbD_eq
    intro i hi
    rw [BitVec.getLsbD_setWidth, BitVec.getLsbD_setWidth]
    rw [show (((x : Int32).toUInt32 >>> ((((24 : Int32) + (-8) + (-8)) : Int32).toUInt32 &&& Int32.toUInt32 31)).toInt32 : Int32).toBitVec = x.toBitVec >>> 8 from rfl]
    rw [show ((x >>> ((nI 8) &&& 31)) : Int32).toBitVec = x.toBitVec.sshiftRight 8 from rfl]
    rw [BitVec.getLsbD_ushiftRight, BitVec.getLsbD_sshiftRight]
    have h1 : 8 + i < 32 := by omega
    have h2 : i < 32 := by omega
    simp [h1, hi, h2]
  show vp_nar .byte _ = vp_nar .byte _
  rw [h]
theorem by_0 (x : Int32) : vp_nar .byte ((((x : Int32).toUInt32 >>> ((((24 : Int32) + (-8) + (-8) + (-8)) : Int32).toUInt32 &&& Int32.toUInt32 31)).toInt32 : Int32).toInt8.toInt32) = bw x (nI 0) := by
  have h : (((x : Int32).toUInt32 >>> ((((24 : Int32) + (-8) + (-8) + (-8)) : Int32).toUInt32 &&& Int32.toUInt32 31)).toInt32 : Int32).toInt8 = ((x >>> ((nI 0) &&& 31)) : Int32).toInt8 := by
    apply Int8.toBitVec_inj.mp
    rw [Int32.toBitVec_toInt8, Int32.toBitVec_toInt8]
    rw [BitVec.signExtend_eq_setWidth_of_le _ (by decide), BitVec.signExtend_eq_setWidth_of_le _ (by decide)]
    apply BitVec.eq_of_getLsbD_eq
    intro i hi
    rw [BitVec.getLsbD_setWidth, BitVec.getLsbD_setWidth]
    rw [show (((x : Int32).toUInt32 >>> ((((24 : Int32) + (-8) + (-8) + (-8)) : Int32).toUInt32 &&& Int32.toUInt32 31)).toInt32 : Int32).toBitVec = x.toBitVec >>> 0 from rfl]
    rw [show ((x >>> ((nI 0) &&& 31)) : Int32).toBitVec = x.toBitVec.sshiftRight 0 from rfl]
    rw [BitVec.getLsbD_ushiftRight, BitVec.getLsbD_sshiftRight]
    have h1 : 0 + i < 32 := by omega
    have h2 : i < 32 := by omega
    simp [h1, hi, h2]
  show vp_nar .byte _ = vp_nar .byte _
  rw [h]
theorem a4_at {bt : Nat → Int32} {ln x : Int32} (h0 : 0 ≤ ln.toInt) (h1 : ln.toInt + 4 ≤ 3000) (j : Nat) : (fX5_appendFour bt ln x).2 j = if ln.toInt.toNat ≤ j ∧ j < ln.toInt.toNat + 4 then bw x (nI (24 - 8 * (j - ln.toInt.toNat))) else bt j := by
  have k1 : (1 : Int32).toInt = 1 := by decide
  have k3 : (3000 : Int32).toInt = 3000 := by decide
  have e1 : (ln + 1).toInt = ln.toInt + 1 := by rw [ti_add (by omega) (by omega), k1]
  have e2 : (ln + 1 + 1).toInt = ln.toInt + 2 := by rw [ti_add (by omega) (by omega), k1]; omega
  have e3 : (ln + 1 + 1 + 1).toInt = ln.toInt + 3 := by rw [ti_add (by omega) (by omega), k1]; omega
  have c0 : ¬ (3000 : Int32) ≤ ln := fun q => by have := i_le q; omega
  have c1 : ¬ (3000 : Int32) ≤ ln + 1 := fun q => by have := i_le q; omega
  have c2 : ¬ (3000 : Int32) ≤ ln + 1 + 1 := fun q => by have := i_le q; omega
  have c3 : ¬ (3000 : Int32) ≤ ln + 1 + 1 + 1 := fun q => by have := i_le q; omega
  unfold fX5_appendFour
  rw [show (40 : Nat) = 35 + 1 + 1 + 1 + 1 + 1 from rfl]
  rw [fX5_appendFour_3, if_neg (by decide), if_neg c0, fX5_appendFour_3, if_neg (by decide), if_neg c1, fX5_appendFour_3, if_neg (by decide), if_neg c2, fX5_appendFour_3, if_neg (by decide), if_neg c3, fX5_appendFour_3, if_pos (by decide)]
  rw [by_24, by_16, by_8, by_0]
  have n0 : ln.toNatClampNeg = ln.toInt.toNat := rfl
  have n1 : (ln + 1).toNatClampNeg = ln.toInt.toNat + 1 := by show (ln + 1).toInt.toNat = _; omega
  have n2 : (ln + 1 + 1).toNatClampNeg = ln.toInt.toNat + 2 := by show (ln + 1 + 1).toInt.toNat = _; omega
  have n3 : (ln + 1 + 1 + 1).toNatClampNeg = ln.toInt.toNat + 3 := by show (ln + 1 + 1 + 1).toInt.toNat = _; omega
  rw [n0, n1, n2, n3]
  generalize ln.toInt.toNat = q
  show upd (upd (upd (upd bt q (bw x (nI 24))) (q + 1) (bw x (nI 16))) (q + 2) (bw x (nI 8))) (q + 3) (bw x (nI 0)) j = _
  unfold upd
  by_cases a : q ≤ j ∧ j < q + 4
  · rw [if_pos a]
    by_cases b3 : j = q + 3
    · rw [if_pos b3, b3, show q + 3 - q = 3 by omega]
    · rw [if_neg b3]
      by_cases b2 : j = q + 2
      · rw [if_pos b2, b2, show q + 2 - q = 2 by omega]
      · rw [if_neg b2]
        by_cases b1 : j = q + 1
        · rw [if_pos b1, b1, show q + 1 - q = 1 by omega]
        · rw [if_neg b1, if_pos (by omega), show j = q by omega, show q - q = 0 by omega]
  · rw [if_neg a, if_neg (by omega), if_neg (by omega), if_neg (by omega), if_neg (by omega)]
abbrev wd5 (wa wb wc wd we : Int32) (i : Nat) : Int32 := if i < 4 then wa else if i < 8 then wb else if i < 12 then wc else if i < 16 then wd else we
theorem kk_lt : ∀ kk : Nat, kk < 20 → ∀ c : Nat, c < 21 → ((nI kk < nI c) ↔ kk < c) := by decide +kernel
theorem kk_sh : ∀ kk : Nat, kk < 20 → (24 - (8 * (nI kk &&& 3)) : Int32) = nI (24 - 8 * (kk % 4)) := by decide +kernel
theorem fm_step {th dc tl xl fo fa mn ft wl wa wb wc wd we : Int32} {tp tz : Nat → Int32} {lz : Int32} (n kk : Nat) (h : kk < 20) : fX9_feed_23 th dc tl xl fo fa mn ft wl tp wa wb wc wd we (n + 1) (nI kk) tz lz = fX9_feed_23 th dc tl xl fo fa mn ft wl tp wa wb wc wd we n (nI (kk + 1)) (upd tz lz.toNatClampNeg (bw (wd5 wa wb wc wd we kk) (nI (24 - 8 * (kk % 4))))) (lz + 1) := by
  have hk : nI kk + 1 = nI (kk + 1) := nI_1 kk
  rw [fX9_feed_23, if_neg (fun q => by have := i_le q; rw [show (20 : Int32).toInt = 20 from by decide, nI_toInt (by omega)] at this; omega), hk, kk_sh kk h]
  have l4 : (nI kk < 4) ↔ kk < 4 := kk_lt kk h 4 (by omega)
  have l8 : (nI kk < 8) ↔ kk < 8 := kk_lt kk h 8 (by omega)
  have l12 : (nI kk < 12) ↔ kk < 12 := kk_lt kk h 12 (by omega)
  have l16 : (nI kk < 16) ↔ kk < 16 := kk_lt kk h 16 (by omega)
  unfold wd5
  by_cases a4 : kk < 4
  · rw [if_pos (l4.mpr a4), if_pos (l8.mpr (by omega)), if_pos (l12.mpr (by omega)), if_pos (l16.mpr (by omega)), if_pos a4]
  · rw [if_neg (fun q => a4 (l4.mp q)), if_neg a4]
    by_cases a8 : kk < 8
    · rw [if_pos (l8.mpr a8), if_pos (l12.mpr (by omega)), if_pos (l16.mpr (by omega)), if_pos a8]
    · rw [if_neg (fun q => a8 (l8.mp q)), if_neg a8]
      by_cases a12 : kk < 12
      · rw [if_pos (l12.mpr a12), if_pos (l16.mpr (by omega)), if_pos a12]
      · rw [if_neg (fun q => a12 (l12.mp q)), if_neg a12]
        by_cases a16 : kk < 16
        · rw [if_pos (l16.mpr a16), if_pos a16]
        · rw [if_neg (fun q => a16 (l16.mp q)), if_neg a16]
theorem fm_at {th dc tl xl fo fa mn ft wl wa wb wc wd we : Int32} {tp : Nat → Int32} : ∀ (n kk : Nat) (tz : Nat → Int32) (lz : Int32), kk ≤ 20 → 20 - kk < n → 0 ≤ lz.toInt → lz.toInt + (20 - kk) ≤ 3000 → ∀ j : Nat, (fX9_feed_23 th dc tl xl fo fa mn ft wl tp wa wb wc wd we n (nI kk) tz lz).2.2.2 j = if lz.toInt.toNat ≤ j ∧ j < lz.toInt.toNat + (20 - kk) then bw (wd5 wa wb wc wd we (kk + (j - lz.toInt.toNat))) (nI (24 - 8 * ((kk + (j - lz.toInt.toNat)) % 4))) else tz j := by
  intro n
  induction n with
  | zero => intro kk tz lz h1 h2; exact absurd h2 (by omega)
  | succ n ih =>
    intro kk tz lz h1 h2 h3 h4 j
    by_cases c : kk < 20
    · have e : (lz + 1).toInt = lz.toInt + 1 := by rw [ti_add (by rw [show (1 : Int32).toInt = 1 from by decide]; omega) (by rw [show (1 : Int32).toInt = 1 from by decide]; omega), show (1 : Int32).toInt = 1 from by decide]
      rw [fm_step n kk c, ih (kk + 1) _ (lz + 1) (by omega) (by omega) (by omega) (by omega) j]
      have en : (lz + 1).toInt.toNat = lz.toInt.toNat + 1 := by omega
      rw [en]
      have n0 : lz.toNatClampNeg = lz.toInt.toNat := rfl
      rw [n0]
      generalize lz.toInt.toNat = q
      by_cases a : q + 1 ≤ j ∧ j < q + 1 + (20 - (kk + 1))
      · rw [if_pos a, if_pos (by omega), show kk + 1 + (j - (q + 1)) = kk + (j - q) by omega]
      · rw [if_neg a]
        unfold upd
        by_cases b : j = q
        · rw [if_pos b, if_pos (by omega), b, show kk + (q - q) = kk by omega]
        · rw [if_neg b, if_neg (by omega)]
    · have ek : kk = 20 := by omega
      subst ek
      rw [fX9_feed_23, if_pos (by decide), if_neg (by omega)]
