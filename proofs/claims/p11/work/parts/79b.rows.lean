/-! compose on both sides -/
theorem rw_row4 {cn : Int32} {t0 t1 t2 t3 t4 t5 rz : Nat → Int32} {K : Nat} {a b b' c c' d : Int32} (h : RW cn t0 t1 t2 t3 t4 t5 rz) (hb : 0 ≤ a.toInt → b' = b ∧ c' = c) (hn : 0 ≤ a.toInt → 0 ≤ b.toInt ∧ 0 ≤ c.toInt) : RW cn t0 t1 (upd t2 K a) (upd t3 K b) (upd t4 K c) (upd t5 K d) (upd (upd (upd (upd rz (6 * K + 2) a) (6 * K + 3) b') (6 * K + 4) c') (6 * K + 5) d) := by
  intro j hj
  obtain ⟨h0, h1, h2, h3, h5, hF⟩ := h j hj
  have hG : NSj t0 t1 (upd t2 K a) (upd t3 K b) (upd t4 K c) j := by
    unfold NSj
    by_cases q : j = K
    · subst q
      rw [upd_eq, upd_eq, upd_eq]
      exact ⟨hF.1, hn, hF.2.2⟩
    · rw [upd_ne q, upd_ne q, upd_ne q]
      exact hF
  rw [upd_ne (j := 6 * j) (by omega), upd_ne (j := 6 * j) (by omega), upd_ne (j := 6 * j) (by omega), upd_ne (j := 6 * j) (by omega)]
  rw [upd_ne (j := 6 * j + 1) (by omega), upd_ne (j := 6 * j + 1) (by omega), upd_ne (j := 6 * j + 1) (by omega), upd_ne (j := 6 * j + 1) (by omega)]
  rw [upd_ne (j := 6 * j + 2) (k := 6 * K + 5) (by omega), upd_ne (j := 6 * j + 2) (k := 6 * K + 4) (by omega), upd_ne (j := 6 * j + 2) (k := 6 * K + 3) (by omega)]
  rw [upd_ne (j := 6 * j + 3) (k := 6 * K + 5) (by omega), upd_ne (j := 6 * j + 3) (k := 6 * K + 4) (by omega)]
  rw [upd_ne (j := 6 * j + 4) (k := 6 * K + 5) (by omega)]
  by_cases q : j = K
  · subst q
    rw [upd_eq, upd_eq, upd_eq, upd_eq, upd_eq, upd_eq, upd_eq, upd_eq]
    exact ⟨h0, h1, rfl, hb, rfl, hG⟩
  · rw [upd_ne (j := 6 * j + 2) (by omega), upd_ne (j := 6 * j + 3) (by omega), upd_ne (j := 6 * j + 3) (by omega), upd_ne (j := 6 * j + 4) (by omega), upd_ne (j := 6 * j + 4) (by omega), upd_ne (j := 6 * j + 4) (by omega), upd_ne (j := 6 * j + 5) (by omega), upd_ne (j := 6 * j + 5) (by omega), upd_ne (j := 6 * j + 5) (by omega), upd_ne (j := 6 * j + 5) (by omega), upd_ne q, upd_ne q, upd_ne q, upd_ne q]
    exact ⟨h0, h1, h2, h3, h5, hG⟩
theorem rw_row3 {cn : Int32} {t0 t1 t2 t3 t4 t5 rz : Nat → Int32} {K : Nat} {a b c : Int32} (h : RW cn t0 t1 t2 t3 t4 t5 rz) (hn : 0 ≤ a.toInt → 0 ≤ b.toInt ∧ 0 ≤ c.toInt) : RW cn t0 t1 (upd t2 K a) (upd t3 K b) (upd t4 K c) t5 (upd (upd (upd rz (6 * K + 2) a) (6 * K + 3) b) (6 * K + 4) c) := by
  have q := rw_row4 (K := K) (a := a) (b := b) (b' := b) (c := c) (c' := c) (d := rz (6 * K + 5)) h (fun _ => ⟨rfl, rfl⟩) hn
  intro j hj
  obtain ⟨h0, h1, h2, h3, h5, hG⟩ := q j hj
  obtain ⟨_, _, _, _, g5, _⟩ := h j hj
  rw [upd_ne (k := 6 * K + 5) (by omega)] at h0 h1 h2 h3
  rw [upd_ne (j := 6 * j + 4) (k := 6 * K + 5) (by omega)] at h3
  refine ⟨h0, h1, h2, h3, ?_, hG⟩
  rw [upd_ne (by omega), upd_ne (by omega), upd_ne (by omega)]
  exact g5
theorem rw_off {cn : Int32} {t0 t1 t2 t3 t4 t5 rz : Nat → Int32} {k : Nat} {a : Int32} (hk : k < 1800) (h : RW cn t0 t1 t2 t3 t4 t5 (fun j => rz (1800 + j))) : RW cn t0 t1 t2 t3 t4 t5 (fun j => (upd rz k a) (1800 + j)) := by
  have e : (fun j => (upd rz k a) (1800 + j)) = (fun j => rz (1800 + j)) := funext fun j => upd_ne (by omega)
  rw [e]; exact h
set_option maxHeartbeats 4000000 in
theorem cp_sim {lf cz co : Int32} {u0 u1 u2 u3 u4 u5 v0 v1 v2 v3 v4 v5 : Nat → Int32} {th dc tl xl fo fa mn ft wl : Int32} {rw ct : Nat → Int32} {C : Nat} (e0 : cz = ct 0) (e1 : co = ct 1) (hC : cz.toInt = (C : Int)) (hC3 : C ≤ 300) (ho0 : 0 ≤ co.toInt) (ho1 : co.toInt ≤ 300) : ∀ (d n : Nat) (te k : Int32) (K : Nat) (uz2 uz3 uz4 uz5 rz : Nat → Int32), k.toInt = (K : Int) → K + d = C → d < n → RW cz u0 u1 uz2 uz3 uz4 uz5 rz → RW co v0 v1 v2 v3 v4 v5 (fun j => rz (1800 + j)) → ∀ rx, rx = fX8_compose_4 lf cz u0 u1 u2 u3 u4 u5 co v0 v1 v2 v3 v4 v5 n te k uz2 uz3 uz4 uz5 → ∀ rm, rm = fX9_compose_9 th dc tl xl fo fa mn ft wl rw ct n te k rz → rx.1 = rm.1 ∧ RW cz u0 u1 rx.2.1 rx.2.2.1 rx.2.2.2.1 rx.2.2.2.2 rm.2.2 ∧ RW co v0 v1 v2 v3 v4 v5 (fun j => rm.2.2 (1800 + j)) := by
  intro d
  induction d with
  | zero =>
    intro n te k K uz2 uz3 uz4 uz5 rz hk hd hn h0 h1 rx hx rm hm
    obtain ⟨n, rfl⟩ : ∃ q, n = q + 1 := ⟨n - 1, by omega⟩
    have c : cz ≤ k := Int32.le_iff_toInt_le.mpr (by omega)
    rw [fX8_compose_4, if_pos c] at hx
    rw [fX9_compose_9, show (ct (0 : Int32).toNatClampNeg) = cz from e0.symm, if_pos c] at hm
    subst hx hm
    exact ⟨rfl, h0, h1⟩
  | succ d ih =>
    intro n te k K uz2 uz3 uz4 uz5 rz hk hd hn h0 h1 rx hx rm hm
    obtain ⟨n, rfl⟩ : ∃ q, n = q + 1 := ⟨n - 1, by omega⟩
    have c : ¬ cz ≤ k := fun q => by have := i_le q; omega
    have e := iu_1 hk (by omega)
    have hKc : k.toNatClampNeg = K := cl_of hk
    obtain ⟨q0, q1, q2, q3, q5, _⟩ := h0 K (by omega)
    rw [fX8_compose_4, if_neg c] at hx
    rw [fX9_compose_9, show (ct (0 : Int32).toNatClampNeg) = cz from e0.symm, if_neg c] at hm
    unfold fX4_tells at hx
    simp only [bnd, hKc] at hx
    simp only [bnd, r6c hk (by omega) (n := 2) (c := 2) (by decide) (by omega), r6c hk (by omega) (n := 3) (c := 3) (by decide) (by omega), r6c hk (by omega) (n := 4) (c := 4) (by decide) (by omega), r6c hk (by omega) (n := 5) (c := 5) (by decide) (by omega)] at hm
    rw [q2] at hm
    by_cases t : uz2 K < 0
    · rw [if_pos t, if_pos rfl] at hx
      rw [if_neg (z_nle (nn_lt t))] at hm
      exact ih n te (k + 1) (K + 1) uz2 uz3 uz4 uz5 rz e (by omega) (by omega) h0 h1 rx hx rm hm
    · rw [if_neg t, if_neg (by decide)] at hx
      have tz := nn_ge t
      obtain ⟨q3, q4⟩ := q3 tz
      rw [if_pos (z_le tz), q3, q4] at hm
      have hf := ft_so (th := 0) (dc := dc) (tl := tl) (xl := xl) (fo := fo) (fa := fa) (mn := mn) (ft := ft) (wl := wl) (rr := rz) (ct := ct) (x := 1) (y := uz3 K) (z := uz4 K) (X := 1) (by decide) (by omega) e1 ho0 ho1 h1
      rcases hf with ⟨f1, f2⟩ | ⟨j, hj, f1, f2, f3⟩
      · rw [f1, if_neg (by decide)] at hx
        unfold fX4_tellNothing at hx
        simp only [hKc] at hx
        have fin : ∀ rm, rm = fX9_compose_9 th dc tl xl fo fa mn ft wl rw ct n te (k + 1) (upd (upd (upd (upd rz (6 * K + 2) (-1)) (6 * K + 3) 0) (6 * K + 4) 0) (6 * K + 5) (-1)) → rx.1 = rm.1 ∧ RW cz u0 u1 rx.2.1 rx.2.2.1 rx.2.2.2.1 rx.2.2.2.2 rm.2.2 ∧ RW co v0 v1 v2 v3 v4 v5 (fun j => rm.2.2 (1800 + j)) := fun rm hm =>
          ih n te (k + 1) (K + 1) _ _ _ _ _ e (by omega) (by omega) (rw_row4 h0 (fun q => absurd q (by decide)) (fun q => absurd q (by decide))) (rw_off (by omega) (rw_off (by omega) (rw_off (by omega) (rw_off (by omega) h1)))) rx hx rm hm
        rcases f2 with f2 | ⟨j, hj, f2, f3⟩
        · rw [f2, if_pos (by decide)] at hm
          exact fin rm hm
        · have hji : (nI j).toInt = (j : Int) := nI_toInt (by omega)
          obtain ⟨_, _, p2, _, _, _⟩ := rw_at h1 hj
          rw [f2, if_neg (i_z (by omega)), r18c hji (by omega) (n := 2) (c := 2) (by decide) (by omega), p2, if_neg (z_nle f3)] at hm
          exact fin rm hm
      · have hji : (nI j).toInt = (j : Int) := nI_toInt (by omega)
        have hjc : (nI j).toNatClampNeg = j := cl_of hji
        obtain ⟨_, _, p2, p3, p5, pF⟩ := rw_at h1 hj
        obtain ⟨p3, p4⟩ := p3 f3
        rw [f1, if_pos (z_le (by omega))] at hx
        unfold fX4_tellAs at hx
        simp only [hKc, hjc] at hx
        rw [f2, if_neg (i_z (by omega))] at hm
        simp only [r18c hji (by omega) (n := 2) (c := 2) (by decide) (by omega), r18c hji (by omega) (n := 3) (c := 3) (by decide) (by omega), r18c hji (by omega) (n := 4) (c := 4) (by decide) (by omega), r18c hji (by omega) (n := 5) (c := 5) (by decide) (by omega)] at hm
        have r3 : ∀ A, (upd rz (6 * K + 2) A) (1800 + 6 * j + 3) = v3 j := fun A => by rw [upd_ne (by omega)]; exact p3
        have r4 : ∀ A B, (upd (upd rz (6 * K + 2) A) (6 * K + 3) B) (1800 + 6 * j + 4) = v4 j := fun A B => by rw [upd_ne (by omega), upd_ne (by omega)]; exact p4
        have r5 : ∀ A B D, (upd (upd (upd rz (6 * K + 2) A) (6 * K + 3) B) (6 * K + 4) D) (1800 + 6 * j + 5) = v5 j := fun A B D => by rw [upd_ne (by omega), upd_ne (by omega), upd_ne (by omega)]; exact p5
        have s5 : ∀ A B D, (upd (upd (upd rz (6 * K + 2) A) (6 * K + 3) B) (6 * K + 4) D) (6 * K + 5) = uz5 K := fun A B D => by rw [upd_ne (by omega), upd_ne (by omega), upd_ne (by omega)]; exact q5
        simp only [p2, r3, r4, r5, s5] at hm
        rw [if_pos (z_le f3)] at hm
        by_cases w : 0 ≤ uz5 K
        · rw [if_pos w] at hx hm
          exact ih n (te + 1) (k + 1) (K + 1) _ _ _ _ _ e (by omega) (by omega) (rw_row3 h0 pF.2.1) (rw_off (by omega) (rw_off (by omega) (rw_off (by omega) h1))) rx hx rm hm
        · rw [if_neg w] at hx hm
          exact ih n (te + 1) (k + 1) (K + 1) _ _ _ _ _ e (by omega) (by omega) (rw_row4 h0 (fun _ => ⟨rfl, rfl⟩) pF.2.1) (rw_off (by omega) (rw_off (by omega) (rw_off (by omega) (rw_off (by omega) h1)))) rx hx rm hm
theorem cp_both {lf cz co : Int32} {u0 u1 u2 u3 u4 u5 v0 v1 v2 v3 v4 v5 : Nat → Int32} {th dc tl xl fo fa mn ft wl : Int32} {rw ct : Nat → Int32} (e0 : cz = ct 0) (e1 : co = ct 1) (hz : 0 ≤ cz.toInt ∧ cz.toInt ≤ 300) (ho : 0 ≤ co.toInt ∧ co.toInt ≤ 300) (h0 : RW cz u0 u1 u2 u3 u4 u5 rw) (h1 : RW co v0 v1 v2 v3 v4 v5 (fun j => rw (1800 + j))) : ∀ rx, rx = fX8_compose lf cz u0 u1 u2 u3 u4 u5 co v0 v1 v2 v3 v4 v5 → ∀ rm, rm = fX9_compose th dc tl xl fo fa mn ft wl rw ct → rx.1 = rm.1 ∧ RW cz u0 u1 rx.2.1 rx.2.2.1 rx.2.2.2.1 rx.2.2.2.2 rm.2.2 ∧ RW co v0 v1 v2 v3 v4 v5 (fun j => rm.2.2 (1800 + j)) := fun rx hx rm hm =>
  cp_sim e0 e1 (C := cz.toInt.toNat) (by omega) (by omega) ho.1 ho.2 cz.toInt.toNat 301 0 0 0 u2 u3 u4 u5 rw (by decide) (by omega) (by omega) h0 h1 rx hx rm hm
