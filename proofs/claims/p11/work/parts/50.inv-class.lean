/-! what stays true of the class's cells: lines 0 .. 199 -/
def L9 (x : Int32) : Prop := 0 ≤ x.toInt ∧ x.toInt ≤ 199
def LnOk (u : Nat → Int32) : Prop := ∀ k : Nat, L9 (u k)
theorem L9_0 : L9 0 := ⟨by decide, by decide⟩
theorem ln_0 : LnOk (fun _ => 0) := fun _ => L9_0
theorem ln_upd {u : Nat → Int32} {k : Nat} {x : Int32} (h : LnOk u) (hx : L9 x) : LnOk (upd u k x) := fun j => by
  unfold upd
  split
  · exact hx
  · exact h j
theorem ln_cpy {u : Nat → Int32} {a b n : Nat} (h : LnOk u) : LnOk (va_cpy u u a b n) := fun j => by
  unfold va_cpy
  split
  · exact h _
  · exact h j
theorem ln_ins13 {cn : Int32} {t0 t1 t2 t3 t4 t5 : Nat → Int32} {g0 g1 g2 g3 g4 g5 : Int32} (h : LnOk t0) (hg : L9 g0) : ∀ (n : Nat) (i : Int32), LnOk (fX4_insert_13 cn t0 t1 t2 t3 t4 t5 g0 g1 g2 g3 g4 g5 n i).2.1 := by
  intro n
  induction n with
  | zero => intro i; exact ln_0
  | succ n ih =>
    intro i
    rw [fX4_insert_13]
    simp only [bnd, fX4_makeGap]
    split
    · exact ln_upd (ln_cpy h) hg
    · split
      · exact ln_upd (ln_cpy h) hg
      · exact ih _
theorem ln_ins {cn : Int32} {t0 t1 t2 t3 t4 t5 : Nat → Int32} {g0 g1 g2 g3 g4 g5 : Int32} (h : LnOk t0) (hg : L9 g0) : LnOk (fX4_insert cn t0 t1 t2 t3 t4 t5 g0 g1 g2 g3 g4 g5).2.1 := by
  unfold fX4_insert
  simp only [bnd]
  split
  · exact ln_ins13 h hg _ _
  · exact h
theorem up_line {nc ss ib li ff fp : Int32} {nb : Nat → Int64} {a0 a1 a2 a3 a4 : Int32} {g0 g1 g2 g3 g4 g5 : Int32} : ∀ r, r = fX2_addUp nc ss ib li ff fp nb a0 a1 a2 a3 a4 g0 g1 g2 g3 g4 g5 → r.1 = 0 ∨ r.2.1 = li := by
  intro r hr
  unfold fX2_addUp at hr
  simp only [bnd, fX3_standAt] at hr
  repeat' split at hr
  all_goals subst hr
  all_goals first | exact Or.inl rfl | exact Or.inr rfl
theorem ln_addSegment {nc ss ib li ff fp : Int32} {nb : Nat → Int64} {a0 a1 a2 a3 a4 : Int32} {g0 g1 g2 g3 g4 g5 : Int32} {cn : Int32} {t0 t1 t2 t3 t4 t5 : Nat → Int32} (h : LnOk t0) (hl : L9 li) : ∀ r, r = fX2_addSegment nc ss ib li ff fp nb a0 a1 a2 a3 a4 g0 g1 g2 g3 g4 g5 cn t0 t1 t2 t3 t4 t5 → LnOk r.2.2.2.2.2.2.2.2.2.2.2.2.2.2.1 := by
  intro r hr
  have hu := up_line (nc := nc) (ss := ss) (ib := ib) (li := li) (ff := ff) (fp := fp) (nb := nb) (a0 := a0) (a1 := a1) (a2 := a2) (a3 := a3) (a4 := a4) (g0 := g0) (g1 := g1) (g2 := g2) (g3 := g3) (g4 := g4) (g5 := g5) _ rfl
  unfold fX2_addSegment at hr
  simp only [bnd] at hr
  generalize fX2_addUp nc ss ib li ff fp nb a0 a1 a2 a3 a4 g0 g1 g2 g3 g4 g5 = w at hr hu
  repeat' split at hr
  all_goals subst hr
  all_goals first | exact h | (rcases hu with q | q <;> first | exact absurd q (by assumption) | exact ln_ins h (by rw [q]; exact hl))
theorem ln_endSegment {nc ss ib li ff fp : Int32} {n0 n1 : Int32} {n2 : Int64} {n3 n4 : Int32} {nb : Nat → Int64} {a0 a1 a2 a3 a4 : Int32} {g0 g1 g2 g3 g4 g5 : Int32} {cn : Int32} {t0 t1 t2 t3 t4 t5 : Nat → Int32} {x y : Int32} (h : LnOk t0) (hl : L9 li) : ∀ r, r = fX2_endSegment nc ss ib li ff fp n0 n1 n2 n3 n4 nb a0 a1 a2 a3 a4 g0 g1 g2 g3 g4 g5 cn t0 t1 t2 t3 t4 t5 x y → LnOk r.2.2.2.2.2.2.2.2.2.2.2.2.2.2.2.1 := by
  intro r hr
  unfold fX2_endSegment at hr
  simp only [bnd] at hr
  repeat' split at hr
  all_goals subst hr
  all_goals first | exact h | exact ln_addSegment h hl _ rfl
theorem l9_startLine {nc ss ib li ff fp : Int32} {a0 a1 a2 a3 a4 : Int32} {x : Int32} (h : L9 li) : ∀ r, r = fX2_startLine nc ss ib li ff fp a0 a1 a2 a3 a4 x → L9 r.1 := by
  intro r hr
  unfold fX2_startLine at hr
  simp only [bnd] at hr
  repeat' split at hr
  all_goals subst hr
  · have q : li < 199 := by assumption
    have q := i_lt q
    rw [show (199 : Int32).toInt = 199 from by decide] at q
    have e := ti_add (a := li) (b := 1) (by rw [show (1 : Int32).toInt = 1 from by decide]; have := h.1; omega) (by rw [show (1 : Int32).toInt = 1 from by decide]; omega)
    rw [show (1 : Int32).toInt = 1 from by decide] at e
    show 0 ≤ (li + 1).toInt ∧ (li + 1).toInt ≤ 199
    rw [e]
    have := h.1
    omega
  · exact h
  · exact h
theorem ln_takeCharacter {nc ss ib li ff fp : Int32} {n0 n1 : Int32} {n2 : Int64} {n3 n4 : Int32} {nb : Nat → Int64} {a0 a1 a2 a3 a4 : Int32} {g0 g1 g2 g3 g4 g5 : Int32} {cn : Int32} {t0 t1 t2 t3 t4 t5 : Nat → Int32} {x y : Int32} (h : LnOk t0) (hl : L9 li) : ∀ r, r = fX2_takeCharacter nc ss ib li ff fp n0 n1 n2 n3 n4 nb a0 a1 a2 a3 a4 g0 g1 g2 g3 g4 g5 cn t0 t1 t2 t3 t4 t5 x y → L9 r.2.2.2.1 ∧ LnOk r.2.2.2.2.2.2.2.2.2.2.2.2.2.2.2.2.2.2.2.2.2.2.2.2.1 := by
  intro r hr
  unfold fX2_takeCharacter at hr
  simp only [bnd] at hr
  repeat' split at hr
  all_goals subst hr
  all_goals first | exact ⟨hl, h⟩ | exact ⟨hl, ln_endSegment h hl _ rfl⟩ | exact ⟨l9_startLine hl _ rfl, ln_endSegment h hl _ rfl⟩
theorem ln_readTape_6 {nc ss ib li ff fp : Int32} {n0 n1 : Int32} {n2 : Int64} {n3 n4 : Int32} {nb : Nat → Int64} {a0 a1 a2 a3 a4 : Int32} {g0 g1 g2 g3 g4 g5 : Int32} {cn : Int32} {t0 t1 t2 t3 t4 t5 : Nat → Int32} {bt : Nat → Int32} {ln : Int32} : ∀ (n : Nat) (k ncz ssz ibz liz ffz fpz n0z n1z : Int32) (n2z : Int64) (n3z n4z : Int32) (nbz : Nat → Int64) (a0z a1z a2z a3z a4z g0z g1z g2z g3z g4z g5z cnz : Int32) (t0z t1z t2z t3z t4z t5z : Nat → Int32), LnOk t0z → L9 liz → LnOk (fX2_readTape_6 nc ss ib li ff fp n0 n1 n2 n3 n4 nb a0 a1 a2 a3 a4 g0 g1 g2 g3 g4 g5 cn t0 t1 t2 t3 t4 t5 bt ln n k ncz ssz ibz liz ffz fpz n0z n1z n2z n3z n4z nbz a0z a1z a2z a3z a4z g0z g1z g2z g3z g4z g5z cnz t0z t1z t2z t3z t4z t5z).2.2.2.2.2.2.2.2.2.2.2.2.2.2.2.2.2.2.2.2.2.2.2.2.1 := by
  intro n
  induction n with
  | zero => intros; exact ln_0
  | succ n ih =>
    intro k ncz ssz ibz liz ffz fpz n0z n1z n2z n3z n4z nbz a0z a1z a2z a3z a4z g0z g1z g2z g3z g4z g5z cnz t0z t1z t2z t3z t4z t5z h hl
    rw [fX2_readTape_6]
    simp only [bnd]
    split
    · split
      · exact ln_endSegment h hl _ rfl
      · exact h
    · split
      · have q := ln_takeCharacter (nc := ncz) (ss := ssz) (ib := ibz) (li := liz) (ff := ffz) (fp := fpz) (n0 := n0z) (n1 := n1z) (n2 := n2z) (n3 := n3z) (n4 := n4z) (nb := nbz) (a0 := a0z) (a1 := a1z) (a2 := a2z) (a3 := a3z) (a4 := a4z) (g0 := g0z) (g1 := g1z) (g2 := g2z) (g3 := g3z) (g4 := g4z) (g5 := g5z) (cn := cnz) (t0 := t0z) (t1 := t1z) (t2 := t2z) (t3 := t3z) (t4 := t4z) (t5 := t5z) (x := fX5_characterAt bt ln k) (y := k) h hl _ rfl
        exact ih _ _ _ _ _ _ _ _ _ _ _ _ _ _ _ _ _ _ _ _ _ _ _ _ _ _ _ _ _ _ _ q.2 q.1
      · exact h
theorem ln_readTape {nc ss ib li ff fp : Int32} {n0 n1 : Int32} {n2 : Int64} {n3 n4 : Int32} {nb : Nat → Int64} {a0 a1 a2 a3 a4 : Int32} {g0 g1 g2 g3 g4 g5 : Int32} {cn : Int32} {t0 t1 t2 t3 t4 t5 : Nat → Int32} {bt : Nat → Int32} {ln : Int32} (h : LnOk t0) : LnOk (fX2_readTape nc ss ib li ff fp n0 n1 n2 n3 n4 nb a0 a1 a2 a3 a4 g0 g1 g2 g3 g4 g5 cn t0 t1 t2 t3 t4 t5 bt ln).2.2.2.2.2.2.2.2.2.2.2.2.2.2.2.2.2.2.2.2.2.2.2.2.1 := by
  unfold fX2_readTape
  simp only [bnd]
  exact ln_readTape_6 _ _ _ _ _ _ _ _ _ _ _ _ _ _ _ _ _ _ _ _ _ _ _ _ _ _ _ _ _ _ _ _ h L9_0
