def WOut (xl : Int32) (tx : Nat → Int32) (ra lz : Int32) (cz : Nat → Int32) (rb xb : Int32) (tb : Nat → Int32) : Prop := (ra = 1 ∧ rb = lz ∧ xb = lz ∧ ∀ j : Nat, (j : Int) < lz.toInt → cz j = tb j) ∨ (ra = 0 ∧ rb = -1 ∧ xb = xl ∧ tb = tx)
theorem w303 {th dc tl xl fo fa mn ft wl x wq fq : Int32} {rw ct tx wr wz : Nat → Int32} {W : Nat} (hW : wq.toInt = (W : Int)) (hW6 : W ≤ 6000) (hr : ∀ j : Nat, j < W → 0 ≤ (wz j).toInt ∧ (wz j).toInt ≤ 127) : ∀ (d n : Nat) (k : Int32) (K : Nat) (tz : Nat → Int32), k.toInt = (K : Int) → K + d = W → d < n → (∀ j : Nat, j < K → tz j = wz j) → ∀ b, b = fX9_write_303 th dc tl xl fo fa mn ft wl rw ct tx wr x n k tz wq fq wz → b.1 = wq ∧ b.2.2.1 = wq ∧ ∀ j : Nat, j < W → b.2.2.2.2.2.1 j = wz j := by
  intro d
  induction d with
  | zero =>
    intro n k K tz hk hd hn ht b hb
    obtain ⟨n, rfl⟩ : ∃ q, n = q + 1 := ⟨n - 1, by omega⟩
    rw [fX9_write_303, if_pos (Int32.le_iff_toInt_le.mpr (by omega))] at hb
    subst hb
    exact ⟨rfl, rfl, fun j hj => ht j (by omega)⟩
  | succ d ih =>
    intro n k K tz hk hd hn ht b hb
    obtain ⟨n, rfl⟩ : ∃ q, n = q + 1 := ⟨n - 1, by omega⟩
    have hKc : k.toNatClampNeg = K := cl_of hk
    rw [fX9_write_303, if_neg (fun q => by have := i_le q; omega), hKc, (nar_c (hr K (by omega)).1 (hr K (by omega)).2).2.2] at hb
    refine ih n (k + 1) (K + 1) _ (iu_1 hk (by omega)) (by omega) (by omega) (fun j hj => ?_) b hb
    by_cases q : j = K
    · rw [q]; exact upd_eq
    · rw [upd_ne q]; exact ht j (by omega)
set_option maxHeartbeats 8000000 in
theorem wt_sim {l0 p0 p1 p2 p3 p4 s0 s1 s2 s3 s4 s5 ln ov cn : Int32} {ch t0 t1 t2 t3 t4 t5 : Nat → Int32} {th dc tl xl fo fa mn ft wl x : Int32} {rw ct tx wr : Nat → Int32} {X C : Nat} (hx : x.toInt = (X : Int)) (hX : X ≤ 1) (hc : ct x.toNatClampNeg = cn) (hC : cn.toInt = (C : Int)) (hC3 : C ≤ 300) (hR : RW cn t0 t1 t2 t3 t4 t5 (fun j => rw (1800 * X + j))) (hL : LnOk t0) : ∀ (d n n' : Nat) (k : Int32) (K : Nat) (wz az0 az1 az2 az3 az4 sz0 sz1 sz2 sz3 sz4 sz5 lz oz : Int32) (cz : Nat → Int32) (fi ftz wlz : Int32) (wrz : Nat → Int32), k.toInt = (K : Int) → K + d = C → d < n → 3 * (d : Int) + (200 - wz.toInt) + 1 < n' → L9 wz → (K = 0 → wz = 0 ∧ az0 = 0 ∧ ¬ fi = 0) → (∀ j : Nat, j + 1 = K → t0 j = wz ∧ fi = 0) → A5ok az0 az1 az2 az3 az4 → TE lz oz cz ftz wlz wrz → ∀ a, a = fX7_writeTable_21 l0 p0 p1 p2 p3 p4 s0 s1 s2 s3 s4 s5 ch ln ov cn t0 t1 t2 t3 t4 t5 n k wz az0 az1 az2 az3 az4 sz0 sz1 sz2 sz3 sz4 sz5 lz oz cz → ∀ b, b = fX9_write_A th dc tl xl fo fa mn ft wl rw ct tx wr x n' 48 wz az0 az1 az2 az3 az4 fi k ftz wlz wrz → WOut xl tx a.1 a.2.2.2.2.2.2.2.2.2.2.2.2.2.1 a.2.2.2.2.2.2.2.2.2.2.2.2.2.2.2 b.1 b.2.2.1 b.2.2.2.2.2.1 := by
  intro d
  induction d with
  | zero =>
    intro n n' k K wz az0 az1 az2 az3 az4 sz0 sz1 sz2 sz3 sz4 sz5 lz oz cz fi ftz wlz wrz hk hd hn hn' hw h0 h1 hA hT a ha b hb
    have hw1 := hw.2
    obtain ⟨n, rfl⟩ : ∃ q, n = q + 1 := ⟨n - 1, by omega⟩
    obtain ⟨n', rfl⟩ : ∃ q, n' = q + 1 := ⟨n' - 1, by omega⟩
    have c : cn ≤ k := Int32.le_iff_toInt_le.mpr (by omega)
    rw [fX7_writeTable_21, if_pos c] at ha
    rw [fX9_write_A, if_pos rfl, hc, if_pos c] at hb
    obtain ⟨te, tl0, tf, tt⟩ := hT
    rcases tf with ⟨f1, f2⟩ | ⟨f1, f2⟩
    · rw [if_pos f1] at ha
      rw [if_neg f2] at hb
      subst te
      have q := w303 (th := th) (dc := dc) (tl := tl) (xl := xl) (fo := fo) (fa := fa) (mn := mn) (ft := ft) (wl := wl) (x := x) (fq := ftz) (rw := rw) (ct := ct) (tx := tx) (wr := wr) (wz := wrz) (W := lz.toInt.toNat) (by omega) (by omega) (fun j hj => (tt j (by omega)).2) lz.toInt.toNat 6001 0 0 tx (by decide) (by omega) (by omega) (fun j hj => absurd hj (by omega)) b hb
      subst ha
      exact Or.inl ⟨rfl, q.1, q.2.1, fun j hj => by
        change (j : Int) < lz.toInt at hj
        rw [q.2.2 j (by omega)]
        exact (tt j hj).1⟩
    · rw [if_neg f1] at ha
      rw [if_pos f2] at hb
      subst ha hb
      exact Or.inr ⟨rfl, rfl, rfl, rfl⟩
  | succ d ih =>
    intro n n' k K wz az0 az1 az2 az3 az4 sz0 sz1 sz2 sz3 sz4 sz5 lz oz cz fi ftz wlz wrz hk hd hn hn' hw h0 h1 hA hT a ha b hb
    have hw0 := hw.1
    have hw1 := hw.2
    obtain ⟨n, rfl⟩ : ∃ q, n = q + 1 := ⟨n - 1, by omega⟩
    obtain ⟨n', rfl⟩ : ∃ q, n' = q + 1 := ⟨n' - 1, by omega⟩
    have c : ¬ cn ≤ k := fun q => by have := i_le q; omega
    have e := iu_1 hk (by omega)
    have hKc : k.toNatClampNeg = K := cl_of hk
    have i0 : ((1800 * x) + (6 * k)).toNatClampNeg = 1800 * X + 6 * K := cl_of (rowx hx hX hk (by omega))
    obtain ⟨q0, q1, q2, q3, q5, qn, qm, qs⟩ := rw_at hR (j := K) (by omega)
    have hlK := hL K
    have hl0 := hlK.1
    have hl1 := hlK.2
    obtain ⟨z0, z1, z2, z3, z4⟩ := id hA
    rw [fX7_writeTable_21, if_neg c, copy_eq hKc] at ha
    rw [fX9_write_A, if_pos rfl, hc, if_neg c] at hb
    simp only [bnd] at ha
    have fin : ∀ (m2 : Nat) (co fi' ft' wl' : Int32) (wr' : Nat → Int32) (lT oT : Int32) (cT : Nat → Int32), 0 ≤ co.toInt → 3 * (d : Int) + (200 - (t0 K).toInt) + 1 < m2 → (∀ T, T = (if fi' = 0 then fX9_add 0 dc tl xl fo fa mn ft' wl' wr' 44 else (ft', wl', wr')) → TE lT oT cT T.1 T.2.1 T.2.2) → b = fX9_write_A th dc tl xl fo fa mn ft wl rw ct tx wr x (m2 + 1) 72 (t0 K) co az1 az2 az3 az4 fi' k ft' wl' wr' → (∀ w, w = fX7_writeSegment (t0 K) co az1 az2 az3 az4 (t0 K) (t1 K) (gV (t2 K) (t2 K)) (gV (t2 K) (t3 K)) (gV (t2 K) (t4 K)) (gN (t2 K) (t5 K)) cT lT oT → ∀ p, p = fX0_pass co az1 az2 az3 az4 (t0 K) (t1 K) (gV (t2 K) (t2 K)) (gV (t2 K) (t3 K)) (gV (t2 K) (t4 K)) (gN (t2 K) (t5 K)) → a = fX7_writeTable_21 l0 p0 p1 p2 p3 p4 s0 s1 s2 s3 s4 s5 ch ln ov cn t0 t1 t2 t3 t4 t5 n (k + 1) (t0 K) p.1 p.2.1 p.2.2.1 p.2.2.2.1 p.2.2.2.2 (t0 K) (t1 K) (gV (t2 K) (t2 K)) (gV (t2 K) (t3 K)) (gV (t2 K) (t4 K)) (gN (t2 K) (t5 K)) w.1 w.2.1 w.2.2) → WOut xl tx a.1 a.2.2.2.2.2.2.2.2.2.2.2.2.2.1 a.2.2.2.2.2.2.2.2.2.2.2.2.2.2.2 b.1 b.2.2.1 b.2.2.2.2.2.1 := fun m2 co fi' ft' wl' wr' lT oT cT hco hm hTT hb ha => by
      have ha := ha _ rfl _ rfl
      rw [w72 m2 (by rw [i0, q0]; exact Int32.le_refl _) _ rfl _ rfl] at hb
      have hTT := hTT _ rfl
      generalize (if fi' = 0 then fX9_add 0 dc tl xl fo fa mn ft' wl' wr' 44 else (ft', wl', wr')) = T at hb hTT
      rw [rowc hx hX hk (by omega) (n := 1) (c := 1) (by decide) (by omega), rowc hx hX hk (by omega) (n := 2) (c := 2) (by decide) (by omega), rowc hx hX hk (by omega) (n := 3) (c := 3) (by decide) (by omega), rowc hx hX hk (by omega) (n := 4) (c := 4) (by decide) (by omega), rowc hx hX hk (by omega) (n := 5) (c := 5) (by decide) (by omega), q1, q2, q5] at hb
      have hs := seg_both (l0 := t0 K) (g0 := t0 K) (dc := dc) (tl := tl) (xl := xl) (fo := fo) (fa := fa) (mn := mn) (q5 := t5 K) hTT ⟨hco, z1, z2, z3, z4⟩ qn q3 qm _ rfl _ rfl _ rfl
      generalize fX7_writeSegment (t0 K) co az1 az2 az3 az4 (t0 K) (t1 K) (gV (t2 K) (t2 K)) (gV (t2 K) (t3 K)) (gV (t2 K) (t4 K)) (gN (t2 K) (t5 K)) cT lT oT = w at ha hs
      generalize fX0_pass co az1 az2 az3 az4 (t0 K) (t1 K) (gV (t2 K) (t2 K)) (gV (t2 K) (t3 K)) (gV (t2 K) (t4 K)) (gN (t2 K) (t5 K)) = p at ha hs
      generalize m_seg dc tl xl fo fa mn T.1 T.2.1 T.2.2 (t1 K) (t2 K) (rw (1800 * X + 6 * K + 3)) (rw (1800 * X + 6 * K + 4)) (t5 K) co az1 az2 az3 az4 = S at hb hs
      obtain ⟨hs1, hs2, hs3⟩ := hs
      subst hs1
      exact ih n m2 (k + 1) (K + 1) (t0 K) _ _ _ _ _ _ _ _ _ _ _ _ _ _ 0 _ _ _ e (by omega) (by omega) hm hlK (fun z => absurd z (by omega)) (fun j hj => ⟨by rw [show j = K from by omega], rfl⟩) hs3 hs2 a ha b hb
    have gto : wz.toInt ≤ (t0 K).toInt → ((t0 K).toInt = wz.toInt → az0 = 0 ∧ ¬ fi = 0) → (∀ g, g = fX7_goToLine wz az0 az1 az2 az3 az4 cz lz oz (t0 K) → ∀ w, w = fX7_writeSegment g.1 g.2.1 az1 az2 az3 az4 (t0 K) (t1 K) (gV (t2 K) (t2 K)) (gV (t2 K) (t3 K)) (gV (t2 K) (t4 K)) (gN (t2 K) (t5 K)) g.2.2.2.2 g.2.2.1 g.2.2.2.1 → ∀ p, p = fX0_pass g.2.1 az1 az2 az3 az4 (t0 K) (t1 K) (gV (t2 K) (t2 K)) (gV (t2 K) (t3 K)) (gV (t2 K) (t4 K)) (gN (t2 K) (t5 K)) → a = fX7_writeTable_21 l0 p0 p1 p2 p3 p4 s0 s1 s2 s3 s4 s5 ch ln ov cn t0 t1 t2 t3 t4 t5 n (k + 1) g.1 p.1 p.2.1 p.2.2.1 p.2.2.2.1 p.2.2.2.2 (t0 K) (t1 K) (gV (t2 K) (t2 K)) (gV (t2 K) (t3 K)) (gV (t2 K) (t4 K)) (gN (t2 K) (t5 K)) w.1 w.2.1 w.2.2) → WOut xl tx a.1 a.2.2.2.2.2.2.2.2.2.2.2.2.2.1 a.2.2.2.2.2.2.2.2.2.2.2.2.2.2.2 b.1 b.2.2.1 b.2.2.2.2.2.1 := fun hge heq ha => by
      have ha := ha _ rfl
      have hsim := g5_sim (l0 := wz) (a0 := az0) (a1 := az1) (a2 := az2) (a3 := az3) (a4 := az4) (ln := lz) (ov := oz) (y := t0 K) (ch := cz) (th := th) (dc := dc) (tl := tl) (xl := xl) (fo := fo) (fa := fa) (mn := mn) (ft := ft) (wl := wl) (x := x) (rw := rw) (ct := ct) (tx := tx) (wr := wr) (so := az1) (sl := az2) (sc := az3) (nm := az4) (kk := k) (by rw [i0]; exact q0) ((t0 K).toInt - wz.toInt).toNat 201 (n' - ((t0 K).toInt - wz.toInt).toNat) wz wz.toInt.toNat lz oz cz az0 fi ftz wlz wrz (by omega) (by omega) (by omega) (by omega) hT
      obtain ⟨lz', oz', cz', ft', wl', wr', g1, g2, g3⟩ := hsim
      unfold fX7_goToLine at ha
      rw [g1] at ha
      rw [show n' - ((t0 K).toInt - wz.toInt).toNat + ((t0 K).toInt - wz.toInt).toNat = n' from by omega] at g2
      rw [g2] at hb
      have hz : (if ((t0 K).toInt - wz.toInt).toNat = 0 then az0 else 0) = 0 ∧ ¬ (if ((t0 K).toInt - wz.toInt).toNat = 0 then fi else 1) = 0 := by
        by_cases q : ((t0 K).toInt - wz.toInt).toNat = 0
        · rw [if_pos q, if_pos q]; exact heq (by omega)
        · rw [if_neg q, if_neg q]; exact ⟨rfl, by decide⟩
      rw [hz.1] at hb
      obtain ⟨hz1, hz2⟩ := hz
      generalize (if ((t0 K).toInt - wz.toInt).toNat = 0 then fi else 1) = fi' at hb hz2
      refine fin (n' - ((t0 K).toInt - wz.toInt).toNat - 1) 0 fi' ft' wl' wr' lz' oz' cz' (by decide) (by omega) (fun T hT => by rw [if_neg hz2] at hT; subst hT; exact g3) ?_ ha
      rw [show n' - ((t0 K).toInt - wz.toInt).toNat - 1 + 1 = n' - ((t0 K).toInt - wz.toInt).toNat from by omega]
      exact hb
    by_cases k0 : k ≤ 0
    · rw [if_pos k0] at ha
      have k0' := i_le k0
      rw [Int32.toInt_zero] at k0'
      obtain ⟨w0, a0, f0⟩ := h0 (by omega)
      refine gto (by rw [w0, Int32.toInt_zero]; exact hl0) (fun _ => ⟨a0, f0⟩) (fun g hg w hw p hp => ?_)
      subst hg hw hp
      exact ha
    · rw [if_neg k0] at ha
      have k0' := i_nle k0
      rw [Int32.toInt_zero] at k0'
      obtain ⟨w0, f0⟩ := h1 (K - 1) (by omega)
      have hge : wz.toInt ≤ (t0 K).toInt := by rw [← w0]; exact qs (K - 1) (by omega)
      by_cases q : t0 K = wz
      · rw [if_pos q] at ha
        refine fin (n' - 1) az0 fi ftz wlz wrz (fX6_append cz lz oz 44).1 (fX6_append cz lz oz 44).2.1 (fX6_append cz lz oz 44).2.2 z0 (by rw [q]; omega) (fun T hT' => ?_) ?_ (fun w hw p hp => ?_)
        · rw [if_pos f0] at hT'
          exact te_add hT (by decide) (by decide) _ rfl _ hT'
        · rw [show n' - 1 + 1 = n' from by omega, q]
          exact hb
        · subst hw hp
          rw [q] at ha ⊢
          exact ha
      · rw [if_neg q] at ha
        refine gto hge (fun z => absurd (Int32.toInt_inj.mp z) q) (fun g hg w hw p hp => ?_)
        subst hg hw hp
        exact ha

