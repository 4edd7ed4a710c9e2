theorem wi199 (x : Int64) : fX8_isWithin x 199 = fX9_within x 199 := by
  unfold fX8_isWithin fX9_within
  rw [show (199 : Int32).toInt64 = 199 from by decide]
def pOk (y1 y2 y3 y4 y5 y6 : Int32) : Prop := ¬ fX9_within ((y1 : Int32).toInt64) 199 = 0 ∧ ¬ fX9_within ((y2 : Int32).toInt64) 999999 = 0 ∧ (y3 < 0 ∨ (¬ y3 < 0 ∧ ¬ 99 < y3 ∧ ¬ fX9_within ((y4 : Int32).toInt64) 999999 = 0 ∧ ¬ fX9_within ((y5 : Int32).toInt64) 999999 = 0 ∧ y6 ≤ 99))
theorem inb_n {y1 y2 y3 y4 y5 y6 : Int32} (h : y3 < 0) : (¬ fX3_isInBounds y1 y2 (-1) (-1) (-1) (-1) = 0) ↔ pOk y1 y2 y3 y4 y5 y6 := by
  unfold fX3_isInBounds pOk fX3_tellsSource
  simp only [bnd, wi199, wi6]
  by_cases a : fX9_within ((y1 : Int32).toInt64) 199 = 0
  · rw [if_pos a]; exact ⟨fun q => absurd rfl q, fun q => absurd a q.1⟩
  · rw [if_neg a]
    by_cases b : fX9_within ((y2 : Int32).toInt64) 999999 = 0
    · rw [if_pos b]; exact ⟨fun q => absurd rfl q, fun q => absurd b q.2.1⟩
    · rw [if_neg b, if_pos (by decide)]
      exact ⟨fun _ => ⟨a, b, Or.inl h⟩, fun _ => nz1⟩
theorem inb_t {y1 y2 y3 y4 y5 y6 : Int32} (h : ¬ y3 < 0) : ∀ f, f = fX3_tell y1 y2 (-1) (-1) (-1) (-1) y3 y4 y5 y6 → ((¬ fX3_isInBounds y1 y2 f.1 f.2.1 f.2.2.1 f.2.2.2 = 0) ↔ pOk y1 y2 y3 y4 y5 y6) := by
  intro f hf
  have hf1 : f.1 = y3 ∧ f.2.1 = y4 ∧ f.2.2.1 = y5 ∧ (99 < f.2.2.2 ↔ ¬ y6 ≤ 99) := by
    unfold fX3_tell at hf
    by_cases c : 0 ≤ y6
    · rw [if_pos c] at hf; subst hf
      exact ⟨rfl, rfl, rfl, ⟨fun q z => by have a : (99 : Int32).toInt < y6.toInt := i_lt q; have b := i_le z; omega, fun q => Int32.lt_iff_toInt_lt.mpr (i_nle q)⟩⟩
    · rw [if_neg c] at hf; subst hf
      exact ⟨rfl, rfl, rfl, ⟨fun q => absurd q (show ¬ (99 : Int32) < -1 by decide), fun q => absurd (Int32.le_iff_toInt_le.mpr (by have a := i_nle c; rw [Int32.toInt_zero] at a; rw [show (99 : Int32).toInt = 99 from by decide]; omega)) q⟩⟩
  obtain ⟨e1, e2, e3, e4⟩ := hf1
  rw [e1, e2, e3]
  unfold fX3_isInBounds pOk fX3_tellsSource
  simp only [bnd, wi199, wi6]
  by_cases a : fX9_within ((y1 : Int32).toInt64) 199 = 0
  · rw [if_pos a]; exact ⟨fun q => absurd rfl q, fun q => absurd a q.1⟩
  · rw [if_neg a]
    by_cases b : fX9_within ((y2 : Int32).toInt64) 999999 = 0
    · rw [if_pos b]; exact ⟨fun q => absurd rfl q, fun q => absurd b q.2.1⟩
    · rw [if_neg b, if_neg h, if_neg (by decide)]
      by_cases c : 99 < y3
      · rw [if_pos c]; exact ⟨fun q => absurd rfl q, fun q => absurd c (q.2.2.resolve_left h).2.1⟩
      · rw [if_neg c]
        by_cases d : 99 < f.2.2.2
        · rw [if_pos d]; exact ⟨fun q => absurd rfl q, fun q => absurd (q.2.2.resolve_left h).2.2.2.2 (e4.mp d)⟩
        · rw [if_neg d]
          by_cases e : fX9_within ((y4 : Int32).toInt64) 999999 = 0
          · rw [if_pos e]; exact ⟨fun q => absurd rfl q, fun q => absurd e (q.2.2.resolve_left h).2.2.1⟩
          · rw [if_neg e]
            by_cases g : fX9_within ((y5 : Int32).toInt64) 999999 = 0
            · rw [if_pos g]; exact ⟨fun q => absurd rfl q, fun q => absurd g (q.2.2.resolve_left h).2.2.2.1⟩
            · rw [if_neg g]
              exact ⟨fun _ => ⟨a, b, Or.inr ⟨h, c, e, g, Decidable.not_not.mp (fun q => d (e4.mpr q))⟩⟩, fun _ => nz1⟩
/-- put of the reference: what it answers, and the counts -/
theorem pm_out {th dc tl xl fo fa mn ft wl x y1 y2 y3 y4 y5 y6 : Int32} {rw ct : Nat → Int32} (hx : x = 0 ∨ x = 1) (h0 : 0 ≤ (ct x.toNatClampNeg).toInt) (h1 : (ct x.toNatClampNeg).toInt ≤ 300) : ∀ rm, rm = fX9_put th dc tl xl fo fa mn ft wl rw ct x y1 y2 y3 y4 y5 y6 → ((pOk y1 y2 y3 y4 y5 y6 ∧ (ct x.toNatClampNeg).toInt < 300) ∧ rm.1 = (ct x.toNatClampNeg) + 1 ∧ rm.2.2.2 = upd ct x.toNatClampNeg ((ct x.toNatClampNeg) + 1)) ∨ (¬ (pOk y1 y2 y3 y4 y5 y6 ∧ (ct x.toNatClampNeg).toInt < 300) ∧ rm.1 = -1 ∧ rm.2.2.2 = ct ∧ rm.2.2.1 = rw) := by
  intro rm hrm
  have hone : ¬ x < 0 ∧ ¬ 1 < x := by rcases hx with q | q <;> subst q <;> decide
  unfold fX9_put at hrm
  simp only [bnd] at hrm
  rw [if_neg hone.1, if_neg hone.2] at hrm
  have hno : ¬ (pOk y1 y2 y3 y4 y5 y6 ∧ (ct x.toNatClampNeg).toInt < 300) → rm = (-1, 0, rw, ct) → (¬ (pOk y1 y2 y3 y4 y5 y6 ∧ (ct x.toNatClampNeg).toInt < 300) ∧ rm.1 = -1 ∧ rm.2.2.2 = ct ∧ rm.2.2.1 = rw) := fun a b => by subst b; exact ⟨a, rfl, rfl, rfl⟩
  by_cases a : fX9_within ((y1 : Int32).toInt64) 199 = 0
  · rw [if_pos a] at hrm; exact Or.inr (hno (fun q => q.1.1 a) hrm)
  · rw [if_neg a] at hrm
    by_cases b : fX9_within ((y2 : Int32).toInt64) 999999 = 0
    · rw [if_pos b] at hrm; exact Or.inr (hno (fun q => q.1.2.1 b) hrm)
    · rw [if_neg b] at hrm
      by_cases c : (ct x.toNatClampNeg) = 300
      · rw [if_pos c] at hrm
        exact Or.inr (hno (fun q => by have := q.2; rw [c] at this; exact absurd this (by decide)) hrm)
      · rw [if_neg c] at hrm
        have hlt : (ct x.toNatClampNeg).toInt < 300 := by have := i_ne c; rw [show (300 : Int32).toInt = 300 from by decide] at this; omega
        have go : ∀ r, r = fX9_put_A th dc tl xl fo fa mn ft wl rw ct x y1 y2 y3 y4 y5 y6 2500 110 (ct x.toNatClampNeg) 0 rw → r.1 = (ct x.toNatClampNeg) + 1 ∧ r.2.2.2 = upd ct x.toNatClampNeg ((ct x.toNatClampNeg) + 1) := fun r hr => pa_cnt 2500 110 _ 0 rw h0 h1 (fun _ => by omega) (fun z => absurd rfl z) r hr
        by_cases d : y3 < 0
        · rw [if_pos d] at hrm
          exact Or.inl ⟨⟨⟨a, b, Or.inl d⟩, hlt⟩, go rm hrm⟩
        · rw [if_neg d] at hrm
          by_cases e : 99 < y3
          · rw [if_pos e] at hrm; exact Or.inr (hno (fun q => (q.1.2.2.resolve_left d).2.1 e) hrm)
          · rw [if_neg e] at hrm
            by_cases f : fX9_within ((y4 : Int32).toInt64) 999999 = 0
            · rw [if_pos f] at hrm; exact Or.inr (hno (fun q => (q.1.2.2.resolve_left d).2.2.1 f) hrm)
            · rw [if_neg f] at hrm
              by_cases g : fX9_within ((y5 : Int32).toInt64) 999999 = 0
              · rw [if_pos g] at hrm; exact Or.inr (hno (fun q => (q.1.2.2.resolve_left d).2.2.2.1 g) hrm)
              · rw [if_neg g] at hrm
                by_cases i : y6 ≤ 99
                · rw [if_pos i] at hrm
                  exact Or.inl ⟨⟨⟨a, b, Or.inr ⟨d, e, f, g, i⟩⟩, hlt⟩, go rm hrm⟩
                · rw [if_neg i] at hrm; exact Or.inr (hno (fun q => i (q.1.2.2.resolve_left d).2.2.2.2) hrm)
