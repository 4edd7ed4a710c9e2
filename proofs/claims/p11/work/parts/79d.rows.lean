theorem row6_at {rz r : Nat → Int32} {B p K : Nat} {a b c d e g : Int32} (h : Row6 rz r B p K a b c d e g) (j : Nat) (n : Nat) (hn : n < 6) : r (B + 6 * j + n) = if j = p then n6 a b c d e g n else if p < j ∧ j ≤ K then rz (B + 6 * (j - 1) + n) else rz (B + 6 * j + n) := by
  rw [h]
  by_cases q : j = p
  · rw [if_pos q, if_pos (by omega)]; congr 1; omega
  · rw [if_neg q, if_neg (by omega)]
    by_cases w : p < j ∧ j ≤ K
    · rw [if_pos w, if_pos (by omega)]; congr 1; omega
    · rw [if_neg w, if_neg (by omega)]
theorem row6_off {rz r : Nat → Int32} {B p K : Nat} {a b c d e g : Int32} (h : Row6 rz r B p K a b c d e g) (hp : p ≤ K) (i : Nat) (hi : i < B ∨ B + 6 * K + 6 ≤ i) : r i = rz i := by
  rw [h, if_neg (by omega), if_neg (by omega)]
set_option maxHeartbeats 4000000 in
theorem rw_ins {cn : Int32} {t0 t1 t2 t3 t4 t5 rr r' : Nat → Int32} {B C p q : Nat} {g0 g1 g2 g3 g4 g5 a3 a4 : Int32} (hC : cn.toInt = (C : Int)) (hC3 : C < 300) (hR : RW cn t0 t1 t2 t3 t4 t5 (fun j => rr (B + j)))
    (hp : p ≤ C) (hp1 : ∀ j : Nat, p ≤ j → j < C → Bey t0 t1 g0 g1 j) (hp2 : ∀ j : Nat, j + 1 = p → ¬ Bey t0 t1 g0 g1 j)
    (hq : q ≤ C) (hq1 : ∀ j : Nat, q ≤ j → j < C → BeyR rr B g0 g1 j) (hq2 : ∀ j : Nat, j + 1 = q → ¬ BeyR rr B g0 g1 j)
    (hr : Row6 rr r' B q C g0 g1 g2 a3 a4 g5) (ha : 0 ≤ g2.toInt → a3 = g3 ∧ a4 = g4) (hn : 0 ≤ g1.toInt ∧ (0 ≤ g2.toInt → 0 ≤ g3.toInt ∧ 0 ≤ g4.toInt)) : RW (cn + 1) (upd (va_cpy t0 t0 p (p + 1) (C - p)) p g0) (upd (va_cpy t1 t1 p (p + 1) (C - p)) p g1) (upd (va_cpy t2 t2 p (p + 1) (C - p)) p g2) (upd (va_cpy t3 t3 p (p + 1) (C - p)) p g3) (upd (va_cpy t4 t4 p (p + 1) (C - p)) p g4) (upd (va_cpy t5 t5 p (p + 1) (C - p)) p g5) (fun j => r' (B + j)) := by
  have bb : ∀ j : Nat, j < C → (Bey t0 t1 g0 g1 j ↔ BeyR rr B g0 g1 j) := fun j hj => by
    obtain ⟨w0, w1, _⟩ := rw_at hR (j := j) (by omega)
    unfold Bey BeyR
    rw [w0, w1]
  have e : q = p := by
    rcases Nat.lt_trichotomy q p with h | h | h
    · exact absurd ((bb (p - 1) (by omega)).mpr (hq1 (p - 1) (by omega) (by omega))) (hp2 (p - 1) (by omega))
    · exact h
    · exact absurd ((bb (q - 1) (by omega)).mp (hp1 (q - 1) (by omega) (by omega))) (hq2 (q - 1) (by omega))
  subst e
  have lo : ∀ i : Nat, i < q → (t0 i).toInt ≤ g0.toInt := fun i hi => by
    have h1 := hp2 (q - 1) (by omega)
    have h2 := (rw_at hR (j := q - 1) (by omega)).2.2.2.2.2.2.2 i (by omega)
    unfold Bey at h1
    have h3 : ¬ g0.toInt < (t0 (q - 1)).toInt := fun z => h1 (Or.inl z)
    omega
  have hi : ∀ i : Nat, q ≤ i → i < C → g0.toInt ≤ (t0 i).toInt := fun i h1 h2 => by
    rcases hp1 i h1 h2 with z | ⟨z, _⟩
    · omega
    · rw [z]; exact Int.le_refl _
  intro j hj
  rw [iu_1 hC (by omega)] at hj
  have hjC : j ≤ C := by omega
  have at0 := row6_at hr j 0 (by omega)
  have at1 := row6_at hr j 1 (by omega)
  have at2 := row6_at hr j 2 (by omega)
  have at3 := row6_at hr j 3 (by omega)
  have at4 := row6_at hr j 4 (by omega)
  have at5 := row6_at hr j 5 (by omega)
  have s0 : ∀ i : Nat, upd (va_cpy t0 t0 q (q + 1) (C - q)) q g0 i = if i = q then g0 else if q < i ∧ i ≤ C then t0 (i - 1) else t0 i := fun i => ins_at
  have hF : NSj (upd (va_cpy t0 t0 q (q + 1) (C - q)) q g0) (upd (va_cpy t1 t1 q (q + 1) (C - q)) q g1) (upd (va_cpy t2 t2 q (q + 1) (C - q)) q g2) (upd (va_cpy t3 t3 q (q + 1) (C - q)) q g3) (upd (va_cpy t4 t4 q (q + 1) (C - q)) q g4) j := by
    unfold NSj
    rw [ins_at (t := t1), ins_at (t := t2), ins_at (t := t3), ins_at (t := t4)]
    have so : ∀ i : Nat, i ≤ j → (upd (va_cpy t0 t0 q (q + 1) (C - q)) q g0 i).toInt ≤ (upd (va_cpy t0 t0 q (q + 1) (C - q)) q g0 j).toInt := fun i hij => by
      rw [s0, s0]
      by_cases i1 : i = q
      · rw [if_pos i1]
        by_cases j1 : j = q
        · rw [if_pos j1]; exact Int.le_refl _
        · rw [if_neg j1, if_pos (by omega)]; exact hi _ (by omega) (by omega)
      · rw [if_neg i1]
        by_cases i2 : q < i ∧ i ≤ C
        · rw [if_pos i2, if_neg (by omega), if_pos (by omega)]
          exact (rw_at hR (j := j - 1) (by omega)).2.2.2.2.2.2.2 (i - 1) (by omega)
        · rw [if_neg i2]
          by_cases j1 : j = q
          · rw [if_pos j1]; exact lo i (by omega)
          · rw [if_neg j1]
            by_cases j2 : q < j ∧ j ≤ C
            · rw [if_pos j2]; exact (rw_at hR (j := j - 1) (by omega)).2.2.2.2.2.2.2 i (by omega)
            · rw [if_neg j2]; exact (rw_at hR (j := j) (by omega)).2.2.2.2.2.2.2 i hij
    refine ⟨?_, ?_, so⟩
    · by_cases j1 : j = q
      · rw [if_pos j1]; exact hn.1
      · rw [if_neg j1]
        by_cases j2 : q < j ∧ j ≤ C
        · rw [if_pos j2]; exact (rw_at hR (j := j - 1) (by omega)).2.2.2.2.2.1
        · rw [if_neg j2]; exact (rw_at hR (j := j) (by omega)).2.2.2.2.2.1
    · by_cases j1 : j = q
      · rw [if_pos j1, if_pos j1, if_pos j1]; exact hn.2
      · rw [if_neg j1, if_neg j1, if_neg j1]
        by_cases j2 : q < j ∧ j ≤ C
        · rw [if_pos j2, if_pos j2, if_pos j2]; exact (rw_at hR (j := j - 1) (by omega)).2.2.2.2.2.2.1
        · rw [if_neg j2, if_neg j2, if_neg j2]; exact (rw_at hR (j := j) (by omega)).2.2.2.2.2.2.1
  show r' (B + 6 * j + 0) = _ ∧ r' (B + 6 * j + 1) = _ ∧ r' (B + 6 * j + 2) = _ ∧ (_ → r' (B + 6 * j + 3) = _ ∧ r' (B + 6 * j + 4) = _) ∧ r' (B + 6 * j + 5) = _ ∧ _
  rw [at0, at1, at2, at3, at4, at5, ins_at (t := t0), ins_at (t := t1), ins_at (t := t2), ins_at (t := t3), ins_at (t := t4), ins_at (t := t5)]
  by_cases j1 : j = q
  · simp only [if_pos j1]
    exact ⟨rfl, rfl, rfl, ha, rfl, hF⟩
  · simp only [if_neg j1]
    by_cases j2 : q < j ∧ j ≤ C
    · simp only [if_pos j2]
      obtain ⟨z0, z1, z2, z3, z5, _⟩ := rw_at hR (j := j - 1) (by omega)
      exact ⟨z0, z1, z2, z3, z5, hF⟩
    · simp only [if_neg j2]
      obtain ⟨z0, z1, z2, z3, z5, _⟩ := rw_at hR (j := j) (by omega)
      exact ⟨z0, z1, z2, z3, z5, hF⟩
