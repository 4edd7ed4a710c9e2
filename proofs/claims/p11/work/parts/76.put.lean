theorem ins13_cnt {cn : Int32} {t0 t1 t2 t3 t4 t5 : Nat → Int32} {g0 g1 g2 g3 g4 g5 : Int32} : ∀ (n : Nat) (i : Int32), 0 ≤ i.toInt → i.toInt < n → (fX4_insert_13 cn t0 t1 t2 t3 t4 t5 g0 g1 g2 g3 g4 g5 n i).1 = cn + 1 := by
  intro n
  induction n with
  | zero => intro i h0 h1; exact absurd h1 (by omega)
  | succ n ih =>
    intro i h0 h1
    rw [fX4_insert_13]
    simp only [bnd]
    by_cases c : i ≤ 0
    · rw [if_pos c]
    · rw [if_neg c]
      have c := i_nle c
      rw [Int32.toInt_zero] at c
      by_cases b : fX4_isBeyond cn t0 t1 g0 g1 g2 g3 g4 g5 (i - 1) = 0
      · rw [if_pos b]
      · rw [if_neg b]
        have hb := Int32.toInt_lt i
        have e : (i + (-1)).toInt = i.toInt - 1 := by rw [ti_add (by rw [show (-1 : Int32).toInt = -1 from by decide]; omega) (by rw [show (-1 : Int32).toInt = -1 from by decide]; omega), show (-1 : Int32).toInt = -1 from by decide]; omega
        exact ih _ (by omega) (by omega)
theorem ins_cnt {cn : Int32} {t0 t1 t2 t3 t4 t5 : Nat → Int32} {g0 g1 g2 g3 g4 g5 : Int32} (h0 : 0 ≤ cn.toInt) (h1 : cn.toInt < 300) : (fX4_insert cn t0 t1 t2 t3 t4 t5 g0 g1 g2 g3 g4 g5).1 = cn + 1 := by
  unfold fX4_insert fX4_isFull
  simp only [bnd]
  rw [if_pos (Int32.lt_iff_toInt_lt.mpr (by rw [show (300 : Int32).toInt = 300 from by decide]; exact h1)), if_pos rfl]
  exact ins13_cnt 301 cn h0 (by omega)
theorem pa_cnt {th dc tl xl fo fa mn ft wl x y1 y2 y3 y4 y5 y6 : Int32} {rw ct : Nat → Int32} : ∀ (n hd : Nat) (k f : Int32) (rz : Nat → Int32), 0 ≤ k.toInt → k.toInt ≤ 300 → (hd = 110 → 8 * k.toInt + 7 < n) → (¬ hd = 110 → 1 ≤ k.toInt ∧ 0 ≤ f.toInt ∧ f.toInt ≤ 6 ∧ 8 * k.toInt + 6 - f.toInt < n) → ∀ r, r = fX9_put_A th dc tl xl fo fa mn ft wl rw ct x y1 y2 y3 y4 y5 y6 n hd k f rz → r.1 = (ct x.toNatClampNeg) + 1 ∧ r.2.2.2 = upd ct x.toNatClampNeg ((ct x.toNatClampNeg) + 1) := by
  intro n
  induction n with
  | zero =>
    intro hd k f rz h0 h1 h2 h3
    by_cases q : hd = 110
    · exact absurd (h2 q) (by omega)
    · exact absurd (h3 q).2.2.2 (by have := (h3 q); omega)
  | succ n ih =>
    intro hd k f rz h0 h1 h2 h3 r hr
    have hu : (upd ct x.toNatClampNeg ((ct x.toNatClampNeg) + 1)) x.toNatClampNeg = (ct x.toNatClampNeg) + 1 := by unfold upd; rw [if_pos rfl]
    rw [fX9_put_A] at hr
    simp only [bnd] at hr
    by_cases q : hd = 110
    · rw [if_pos q] at hr
      have h2 := h2 q
      by_cases c : k ≤ 0
      · rw [if_pos c] at hr
        repeat' split at hr
        all_goals (subst hr; exact ⟨hu, rfl⟩)
      · rw [if_neg c] at hr
        have c := i_nle c
        rw [Int32.toInt_zero] at c
        by_cases b : fX9_isBefore 0 dc tl xl fo fa mn ft wl rz ((1800 * x) + (6 * (k - 1))) y1 y2 = 0
        · rw [if_pos b] at hr
          repeat' split at hr
          all_goals (subst hr; exact ⟨hu, rfl⟩)
        · rw [if_neg b] at hr
          exact ih 137 k 0 rz h0 h1 (fun z => absurd z (by decide)) (fun _ => ⟨by omega, by decide, by decide, by rw [Int32.toInt_zero]; omega⟩) r hr
    · rw [if_neg q] at hr
      obtain ⟨k1, k2, k3, k4⟩ := h3 q
      by_cases c : (6 : Int32) ≤ f
      · rw [if_pos c] at hr
        have c := i_le c
        rw [show (6 : Int32).toInt = 6 from by decide] at c
        have e : (k + (-1)).toInt = k.toInt - 1 := by rw [ti_add (by rw [show (-1 : Int32).toInt = -1 from by decide]; omega) (by rw [show (-1 : Int32).toInt = -1 from by decide]; omega), show (-1 : Int32).toInt = -1 from by decide]; omega
        exact ih 110 _ 0 rz (by omega) (by omega) (fun _ => by omega) (fun z => absurd rfl z) r hr
      · rw [if_neg c] at hr
        have c := i_nle c
        rw [show (6 : Int32).toInt = 6 from by decide] at c
        have e : (f + 1).toInt = f.toInt + 1 := by rw [ti_add (by rw [show (1 : Int32).toInt = 1 from by decide]; omega) (by rw [show (1 : Int32).toInt = 1 from by decide]; omega), show (1 : Int32).toInt = 1 from by decide]
        exact ih 137 k _ _ h0 h1 (fun z => absurd z (by decide)) (fun _ => ⟨k1, by omega, by omega, by omega⟩) r hr
