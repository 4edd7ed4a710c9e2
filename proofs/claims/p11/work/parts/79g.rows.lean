/-! one segment, written on both sides -/
def m_seg (dc tl xl fo fa mn ft wl : Int32) (wr : Nat → Int32) (q1 q2 q3 q4 q5 co so sl sc nm : Int32) : Int32 × Int32 × Int32 × Int32 × Int32 × Int32 × Int32 × (Nat → Int32) :=
  bnd (fX9_addNumber 0 dc tl xl fo fa mn ft wl wr (q1 - co)) fun a =>
  if 0 ≤ q2 then
    bnd (fX9_addNumber 0 dc tl xl fo fa mn a.1 a.2.1 a.2.2 (q2 - so)) fun b =>
    bnd (fX9_addNumber 0 dc tl xl fo fa mn b.1 b.2.1 b.2.2 (q3 - sl)) fun c =>
    bnd (fX9_addNumber 0 dc tl xl fo fa mn c.1 c.2.1 c.2.2 (q4 - sc)) fun d =>
    if 0 ≤ q5 then
      bnd (fX9_addNumber 0 dc tl xl fo fa mn d.1 d.2.1 d.2.2 (q5 - nm)) fun e =>
      (q1, q2, q3, q4, q5, e.1, e.2.1, e.2.2)
    else
      (q1, q2, q3, q4, nm, d.1, d.2.1, d.2.2)
  else
    (q1, so, sl, sc, nm, a.1, a.2.1, a.2.2)
theorem w72 {th dc tl xl fo fa mn ft wl x : Int32} {rw ct tx wr : Nat → Int32} (n : Nat) {li co so sl sc nm fi k ftz wlz : Int32} {wz : Nat → Int32} (h : (rw ((1800 * x) + (6 * k)).toNatClampNeg) ≤ li) : ∀ T, T = (if fi = 0 then fX9_add 0 dc tl xl fo fa mn ftz wlz wz 44 else (ftz, wlz, wz)) → ∀ S, S = m_seg dc tl xl fo fa mn T.1 T.2.1 T.2.2 (rw (((1800 * x) + (6 * k)) + 1).toNatClampNeg) (rw (((1800 * x) + (6 * k)) + 2).toNatClampNeg) (rw (((1800 * x) + (6 * k)) + 3).toNatClampNeg) (rw (((1800 * x) + (6 * k)) + 4).toNatClampNeg) (rw (((1800 * x) + (6 * k)) + 5).toNatClampNeg) co so sl sc nm → fX9_write_A th dc tl xl fo fa mn ft wl rw ct tx wr x (n + 1) 72 li co so sl sc nm fi k ftz wlz wz = fX9_write_A th dc tl xl fo fa mn ft wl rw ct tx wr x n 48 li S.1 S.2.1 S.2.2.1 S.2.2.2.1 S.2.2.2.2.1 0 (k + 1) S.2.2.2.2.2.1 S.2.2.2.2.2.2.1 S.2.2.2.2.2.2.2 := by
  intro T hT S hS
  conv => lhs; rw [fX9_write_A, if_neg (by decide), if_pos h]
  unfold m_seg at hS
  simp only [bnd] at hS ⊢
  by_cases c : fi = 0
  · rw [if_pos c] at hT ⊢
    rw [← hT]
    by_cases c2 : 0 ≤ (rw (((1800 * x) + (6 * k)) + 2).toNatClampNeg)
    · rw [if_pos c2] at hS ⊢
      by_cases c5 : 0 ≤ (rw (((1800 * x) + (6 * k)) + 5).toNatClampNeg)
      · rw [if_pos c5] at hS ⊢
        rw [hS]
      · rw [if_neg c5] at hS ⊢
        rw [hS]
    · rw [if_neg c2] at hS ⊢
      rw [hS]
  · rw [if_neg c] at hT ⊢
    subst hT
    by_cases c2 : 0 ≤ (rw (((1800 * x) + (6 * k)) + 2).toNatClampNeg)
    · rw [if_pos c2] at hS ⊢
      by_cases c5 : 0 ≤ (rw (((1800 * x) + (6 * k)) + 5).toNatClampNeg)
      · rw [if_pos c5] at hS ⊢
        rw [hS]
      · rw [if_neg c5] at hS ⊢
        rw [hS]
    · rw [if_neg c2] at hS ⊢
      rw [hS]
theorem sub_ok {a b : Int32} (h0 : 0 ≤ a.toInt) (h1 : 0 ≤ b.toInt) : -2147483648 < (a - b).toInt := by
  have := Int32.toInt_lt a
  have := Int32.toInt_lt b
  rw [ti_sub (by omega) (by omega)]
  omega
def gN (t2 t5 : Int32) : Int32 := if t2 < 0 then -1 else if 0 ≤ t5 then t5 else -1
def gV (t2 v : Int32) : Int32 := if t2 < 0 then -1 else v
theorem copy_eq {cn : Int32} {t0 t1 t2 t3 t4 t5 : Nat → Int32} {g0 g1 g2 g3 g4 g5 k : Int32} {K : Nat} (hk : k.toNatClampNeg = K) : fX4_copyTo cn t0 t1 t2 t3 t4 t5 g0 g1 g2 g3 g4 g5 k = (t0 K, t1 K, gV (t2 K) (t2 K), gV (t2 K) (t3 K), gV (t2 K) (t4 K), gN (t2 K) (t5 K)) := by
  unfold fX4_copyTo fX3_standAt fX4_tells fX3_tell gN gV
  simp only [bnd, hk]
  by_cases c : t2 K < 0
  · simp only [if_pos c, if_true]
  · simp only [if_neg c]
    rw [if_neg (by decide)]
    by_cases d : 0 ≤ t5 K
    · simp only [if_pos d]
    · simp only [if_neg d]
def A5ok (a0 a1 a2 a3 a4 : Int32) : Prop := 0 ≤ a0.toInt ∧ 0 ≤ a1.toInt ∧ 0 ≤ a2.toInt ∧ 0 ≤ a3.toInt ∧ 0 ≤ a4.toInt
/-- the numbers of one segment -/
theorem seg_both {l0 a0 a1 a2 a3 a4 g0 q1 q2 t3 t4 q3 q4 q5 ln ov ft wl dc tl xl fo fa mn : Int32} {ch wr : Nat → Int32} (hT : TE ln ov ch ft wl wr) (hA : A5ok a0 a1 a2 a3 a4) (h1 : 0 ≤ q1.toInt) (h3 : 0 ≤ q2.toInt → q3 = t3 ∧ q4 = t4) (h4 : 0 ≤ q2.toInt → 0 ≤ t3.toInt ∧ 0 ≤ t4.toInt) : ∀ w, w = fX7_writeSegment l0 a0 a1 a2 a3 a4 g0 q1 (gV q2 q2) (gV q2 t3) (gV q2 t4) (gN q2 q5) ch ln ov → ∀ p, p = fX0_pass a0 a1 a2 a3 a4 g0 q1 (gV q2 q2) (gV q2 t3) (gV q2 t4) (gN q2 q5) → ∀ S, S = m_seg dc tl xl fo fa mn ft wl wr q1 q2 q3 q4 q5 a0 a1 a2 a3 a4 → p = (S.1, S.2.1, S.2.2.1, S.2.2.2.1, S.2.2.2.2.1) ∧ TE w.1 w.2.1 w.2.2 S.2.2.2.2.2.1 S.2.2.2.2.2.2.1 S.2.2.2.2.2.2.2 ∧ A5ok p.1 p.2.1 p.2.2.1 p.2.2.2.1 p.2.2.2.2 := by
  intro w hw p hp S hS
  obtain ⟨b0, b1, b2, b3, b4⟩ := hA
  unfold fX7_writeSegment fX3_tellsSource fX3_tellsName at hw
  unfold fX0_pass fX3_tellsSource fX3_tellsName at hp
  unfold m_seg at hS
  simp only [bnd] at hw hp hS
  have T1 := nb_both (th := 0) (dc := dc) (tl := tl) (xl := xl) (fo := fo) (fa := fa) (mn := mn) (sub_ok h1 b0) hT _ rfl _ rfl
  generalize fX6_appendNumber ch ln ov (q1 - a0) = A at hw T1
  generalize fX9_addNumber 0 dc tl xl fo fa mn ft wl wr (q1 - a0) = A' at hS T1
  by_cases c : q2 < 0
  · rw [if_neg (z_nle (nn_lt c))] at hS
    have e2 : gV q2 q2 = -1 := if_pos c
    have e5 : gN q2 q5 = -1 := if_pos c
    rw [e2, e5, if_pos (by decide), if_pos (by decide)] at hw hp
    subst hw hp hS
    exact ⟨rfl, T1, h1, b1, b2, b3, b4⟩
  · have c2 := nn_ge c
    have e2 : gV q2 q2 = q2 := if_neg c
    have e3 : gV q2 t3 = t3 := if_neg c
    have e4 : gV q2 t4 = t4 := if_neg c
    obtain ⟨x3, x4⟩ := h3 c2
    obtain ⟨n3, n4⟩ := h4 c2
    rw [if_pos (z_le c2), x3, x4] at hS
    rw [e2, e3, e4, if_neg c, if_neg (by decide)] at hw hp
    have T2 := nb_both (th := 0) (dc := dc) (tl := tl) (xl := xl) (fo := fo) (fa := fa) (mn := mn) (sub_ok c2 b1) T1 _ rfl _ rfl
    generalize fX6_appendNumber A.2.2 A.1 A.2.1 (q2 - a1) = B at hw T2
    generalize fX9_addNumber 0 dc tl xl fo fa mn A'.1 A'.2.1 A'.2.2 (q2 - a1) = B' at hS T2
    have T3 := nb_both (th := 0) (dc := dc) (tl := tl) (xl := xl) (fo := fo) (fa := fa) (mn := mn) (sub_ok n3 b2) T2 _ rfl _ rfl
    generalize fX6_appendNumber B.2.2 B.1 B.2.1 (t3 - a2) = C at hw T3
    generalize fX9_addNumber 0 dc tl xl fo fa mn B'.1 B'.2.1 B'.2.2 (t3 - a2) = C' at hS T3
    have T4 := nb_both (th := 0) (dc := dc) (tl := tl) (xl := xl) (fo := fo) (fa := fa) (mn := mn) (sub_ok n4 b3) T3 _ rfl _ rfl
    generalize fX6_appendNumber C.2.2 C.1 C.2.1 (t4 - a3) = D at hw T4
    generalize fX9_addNumber 0 dc tl xl fo fa mn C'.1 C'.2.1 C'.2.2 (t4 - a3) = D' at hS T4
    by_cases d : 0 ≤ q5
    · have d5 := i_le d
      rw [Int32.toInt_zero] at d5
      have e5 : gN q2 q5 = q5 := by unfold gN; rw [if_neg c, if_pos d]
      rw [if_pos d] at hS
      rw [e5, if_neg (i_z d5), if_neg (by decide)] at hw hp
      have T5 := nb_both (th := 0) (dc := dc) (tl := tl) (xl := xl) (fo := fo) (fa := fa) (mn := mn) (sub_ok d5 b4) T4 _ rfl _ rfl
      generalize fX6_appendNumber D.2.2 D.1 D.2.1 (q5 - a4) = F at hw T5
      generalize fX9_addNumber 0 dc tl xl fo fa mn D'.1 D'.2.1 D'.2.2 (q5 - a4) = F' at hS T5
      subst hw hp hS
      exact ⟨rfl, T5, h1, c2, n3, n4, d5⟩
    · have e5 : gN q2 q5 = -1 := by unfold gN; rw [if_neg c, if_neg d]
      rw [if_neg d] at hS
      rw [e5, if_pos (by decide)] at hw hp
      subst hw hp hS
      exact ⟨rfl, T4, h1, c2, n3, n4, b4⟩
/-- on to the segment's line: as many ';' on both sides -/
theorem g5_sim {l0 a0 a1 a2 a3 a4 ln ov y : Int32} {ch : Nat → Int32} {th dc tl xl fo fa mn ft wl x : Int32} {rw ct tx wr : Nat → Int32} {so sl sc nm kk : Int32} (hy : rw ((1800 * x) + (6 * kk)).toNatClampNeg = y) : ∀ (d n n2 : Nat) (k : Int32) (K : Nat) (lz oz : Int32) (cz : Nat → Int32) (co fi ftz wlz : Int32) (wz : Nat → Int32), k.toInt = (K : Int) → y.toInt = ((K + d : Nat) : Int) → K + d ≤ 1000 → d < n → TE lz oz cz ftz wlz wz → ∃ (lz' oz' : Int32) (cz' : Nat → Int32) (ft' wl' : Int32) (wr' : Nat → Int32), fX7_goToLine_5 l0 a0 a1 a2 a3 a4 ch ln ov y n k lz oz cz = (y, 0, lz', oz', cz') ∧ fX9_write_A th dc tl xl fo fa mn ft wl rw ct tx wr x (n2 + d) 72 k co so sl sc nm fi kk ftz wlz wz = fX9_write_A th dc tl xl fo fa mn ft wl rw ct tx wr x n2 72 y (if d = 0 then co else 0) so sl sc nm (if d = 0 then fi else 1) kk ft' wl' wr' ∧ TE lz' oz' cz' ft' wl' wr' := by
  intro d
  induction d with
  | zero =>
    intro n n2 k K lz oz cz co fi ftz wlz wz hk hd hK hn hT
    obtain ⟨n, rfl⟩ : ∃ q, n = q + 1 := ⟨n - 1, by omega⟩
    refine ⟨lz, oz, cz, ftz, wlz, wz, ?_, ?_, hT⟩
    · rw [fX7_goToLine_5, if_pos (Int32.le_iff_toInt_le.mpr (by omega))]
      rfl
    · have e : k = y := Int32.toInt_inj.mp (by omega)
      rw [if_pos rfl, if_pos rfl, e]
      rfl
  | succ d ih =>
    intro n n2 k K lz oz cz co fi ftz wlz wz hk hd hK hn hT
    obtain ⟨n, rfl⟩ : ∃ q, n = q + 1 := ⟨n - 1, by omega⟩
    have e := iu_1 hk (by omega)
    have T1 := te_add (th := 0) (dc := dc) (tl := tl) (xl := xl) (fo := fo) (fa := fa) (mn := mn) (c := 59) hT (by decide) (by decide) _ rfl _ rfl
    obtain ⟨lz', oz', cz', ft', wl', wr', i1, i2, i3⟩ := ih n n2 (k + 1) (K + 1) _ _ _ 0 1 _ _ _ e (by omega) (by omega) (by omega) T1
    refine ⟨lz', oz', cz', ft', wl', wr', ?_, ?_, i3⟩
    · rw [fX7_goToLine_5, if_neg (fun q => by have := i_le q; omega)]
      exact i1
    · rw [if_neg (Nat.succ_ne_zero d), if_neg (Nat.succ_ne_zero d)]
      rw [show (if d = 0 then (0 : Int32) else 0) = 0 from by split <;> rfl, show (if d = 0 then (1 : Int32) else 1) = 1 from by split <;> rfl] at i2
      rw [← i2, show n2 + (d + 1) = (n2 + d) + 1 from by omega]
      conv => lhs; rw [fX9_write_A, if_neg (by decide), hy, if_neg (fun q => by have := i_le q; omega)]
      rfl
