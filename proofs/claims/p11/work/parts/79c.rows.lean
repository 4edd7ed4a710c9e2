/-! put on both sides: one place, the rows behind it one further -/
def Bey (t0 t1 : Nat → Int32) (a b : Int32) (j : Nat) : Prop := a.toInt < (t0 j).toInt ∨ (t0 j = a ∧ b.toInt < (t1 j).toInt)
theorem bey_c {cn : Int32} {t0 t1 : Nat → Int32} {g0 g1 g2 g3 g4 g5 i : Int32} {j : Nat} (hi : i.toNatClampNeg = j) : fX4_isBeyond cn t0 t1 g0 g1 g2 g3 g4 g5 i = 0 ↔ ¬ Bey t0 t1 g0 g1 j := by
  unfold fX4_isBeyond Bey
  rw [hi]
  by_cases c0 : g0 < t0 j
  · rw [if_pos c0]
    exact ⟨fun h => absurd h (by decide), fun h => absurd (Or.inl (i_lt c0)) h⟩
  · rw [if_neg c0]
    have d0 := i_nlt c0
    by_cases c1 : t0 j = g0
    · rw [if_pos c1]
      by_cases c2 : t1 j ≤ g1
      · rw [if_pos c2]
        have d2 := i_le c2
        exact ⟨fun _ q => by rcases q with q | ⟨_, q⟩ <;> omega, fun _ => rfl⟩
      · rw [if_neg c2]
        exact ⟨fun h => absurd h (by decide), fun h => absurd (Or.inr ⟨c1, i_nle c2⟩) h⟩
    · rw [if_neg c1]
      exact ⟨fun _ q => by
        rcases q with q | ⟨q, _⟩
        · omega
        · exact c1 q, fun _ => rfl⟩
theorem ins_rows {cn : Int32} {t0 t1 t2 t3 t4 t5 : Nat → Int32} {g0 g1 g2 g3 g4 g5 : Int32} {C : Nat} (hC : cn.toInt = (C : Int)) (hC3 : C ≤ 300) : ∀ (K n : Nat) (i : Int32), i.toInt = (K : Int) → K ≤ C → K < n → ∃ p : Nat, p ≤ K ∧ (∀ j : Nat, p ≤ j → j < K → Bey t0 t1 g0 g1 j) ∧ (∀ j : Nat, j + 1 = p → ¬ Bey t0 t1 g0 g1 j) ∧ fX4_insert_13 cn t0 t1 t2 t3 t4 t5 g0 g1 g2 g3 g4 g5 n i = (cn + 1, upd (va_cpy t0 t0 p (p + 1) (C - p)) p g0, upd (va_cpy t1 t1 p (p + 1) (C - p)) p g1, upd (va_cpy t2 t2 p (p + 1) (C - p)) p g2, upd (va_cpy t3 t3 p (p + 1) (C - p)) p g3, upd (va_cpy t4 t4 p (p + 1) (C - p)) p g4, upd (va_cpy t5 t5 p (p + 1) (C - p)) p g5) := by
  intro K
  have gap : ∀ (i : Int32) (p : Nat), i.toInt = (p : Int) → p ≤ C → (i.toNatClampNeg = p ∧ (i + 1).toNatClampNeg = p + 1 ∧ (cn - i).toNatClampNeg = C - p) := fun i p h hp => by
    refine ⟨cl_of h, cl_of (by rw [iu_1 h (by omega)]), cl_of ?_⟩
    rw [ti_sub (by omega) (by omega)]; omega
  induction K with
  | zero =>
    intro n i hi hK hn
    obtain ⟨n, rfl⟩ : ∃ q, n = q + 1 := ⟨n - 1, by omega⟩
    obtain ⟨w1, w2, w3⟩ := gap i 0 hi (by omega)
    refine ⟨0, by omega, fun j _ h => absurd h (by omega), fun j h => absurd h (by omega), ?_⟩
    rw [fX4_insert_13, if_pos (Int32.le_iff_toInt_le.mpr (by rw [Int32.toInt_zero]; omega))]
    simp only [bnd, fX4_makeGap, w1, w2, w3]
  | succ K ih =>
    intro n i hi hK hn
    obtain ⟨n, rfl⟩ : ∃ q, n = q + 1 := ⟨n - 1, by omega⟩
    have e := id_1 hi (by omega)
    have e' := im_1 hi (by omega)
    have hb := bey_c (cn := cn) (t0 := t0) (t1 := t1) (g0 := g0) (g1 := g1) (g2 := g2) (g3 := g3) (g4 := g4) (g5 := g5) (i := i - 1) (j := K) (cl_of (by omega))
    rw [fX4_insert_13, if_neg (fun q => by have := i_le q; rw [Int32.toInt_zero] at this; omega)]
    by_cases c : fX4_isBeyond cn t0 t1 g0 g1 g2 g3 g4 g5 (i - 1) = 0
    · obtain ⟨w1, w2, w3⟩ := gap i (K + 1) hi (by omega)
      refine ⟨K + 1, by omega, fun j h1 h2 => absurd h2 (by omega), fun j h => ?_, ?_⟩
      · have : j = K := by omega
        rw [this]; exact hb.mp c
      · simp only [bnd, fX4_makeGap, w1, w2, w3]
        rw [if_pos c]
    · obtain ⟨p, p1, p2, p3, p4⟩ := ih n (i + (-1)) (by omega) (by omega) (by omega)
      refine ⟨p, by omega, fun j h1 h2 => ?_, p3, ?_⟩
      · by_cases q : j = K
        · rw [q]; exact Classical.byContradiction (fun z => c (hb.mpr z))
        · exact p2 j h1 (by omega)
      · simp only [bnd]
        rw [if_neg c]
        exact p4
theorem ins_at {t : Nat → Int32} {g : Int32} {p C j : Nat} : upd (va_cpy t t p (p + 1) (C - p)) p g j = if j = p then g else if p < j ∧ j ≤ C then t (j - 1) else t j := by
  unfold upd va_cpy
  by_cases q : j = p
  · rw [if_pos q, if_pos q]
  · rw [if_neg q, if_neg q]
    by_cases r : p < j ∧ j ≤ C
    · rw [if_pos r, if_pos (by omega)]; congr 1; omega
    · rw [if_neg r, if_neg (by omega)]
def n6 (a b c d e g : Int32) (i : Nat) : Int32 := if i = 0 then a else if i = 1 then b else if i = 2 then c else if i = 3 then d else if i = 4 then e else g
theorem up6 {f : Nat → Int32} {B : Nat} {a b c d e g : Int32} (i : Nat) : (upd (upd (upd (upd (upd (upd f B a) (B + 1) b) (B + 2) c) (B + 3) d) (B + 4) e) (B + 5) g) i = if B ≤ i ∧ i < B + 6 then n6 a b c d e g (i - B) else f i := by
  by_cases h : B ≤ i ∧ i < B + 6
  · rw [if_pos h]
    obtain ⟨k, hk, rfl⟩ : ∃ k, k < 6 ∧ i = B + k := ⟨i - B, by omega, by omega⟩
    rw [show B + k - B = k from by omega]
    match k, hk with
    | 0, _ => rw [upd_ne (by omega), upd_ne (by omega), upd_ne (by omega), upd_ne (by omega), upd_ne (by omega)]; exact upd_eq
    | 1, _ => rw [upd_ne (by omega), upd_ne (by omega), upd_ne (by omega), upd_ne (by omega)]; exact upd_eq
    | 2, _ => rw [upd_ne (by omega), upd_ne (by omega), upd_ne (by omega)]; exact upd_eq
    | 3, _ => rw [upd_ne (by omega), upd_ne (by omega)]; exact upd_eq
    | 4, _ => rw [upd_ne (by omega)]; exact upd_eq
    | 5, _ => exact upd_eq
  · rw [if_neg h, upd_ne (by omega), upd_ne (by omega), upd_ne (by omega), upd_ne (by omega), upd_ne (by omega), upd_ne (by omega)]
def Row6 (rz r : Nat → Int32) (B p K : Nat) (a b c d e g : Int32) : Prop := ∀ i : Nat, r i = if B + 6 * p ≤ i ∧ i < B + 6 * p + 6 then n6 a b c d e g (i - (B + 6 * p)) else if B + 6 * p + 6 ≤ i ∧ i < B + 6 * K + 6 then rz (i - 6) else rz i
theorem row6_0 {rz : Nat → Int32} {B K : Nat} {a b c d e g : Int32} : Row6 rz (upd (upd (upd (upd (upd (upd rz (B + 6 * K) a) (B + 6 * K + 1) b) (B + 6 * K + 2) c) (B + 6 * K + 3) d) (B + 6 * K + 4) e) (B + 6 * K + 5) g) B K K a b c d e g := fun i => by
  rw [up6]
  by_cases h : B + 6 * K ≤ i ∧ i < B + 6 * K + 6
  · rw [if_pos h, if_pos h]
  · rw [if_neg h, if_neg h, if_neg (by omega)]
abbrev BeyR (f : Nat → Int32) (B : Nat) (a b : Int32) (j : Nat) : Prop := a.toInt < (f (B + 6 * j)).toInt ∨ (f (B + 6 * j) = a ∧ b.toInt < (f (B + 6 * j + 1)).toInt)
theorem bey_r {th dc tl xl fo fa mn ft wl : Int32} {f : Nat → Int32} {r a b : Int32} {B j : Nat} (h0 : r.toNatClampNeg = B + 6 * j) (h1 : (r + 1).toNatClampNeg = B + 6 * j + 1) : fX9_isBefore th dc tl xl fo fa mn ft wl f r a b = 0 ↔ ¬ BeyR f B a b j := by
  unfold fX9_isBefore BeyR
  rw [h0, h1]
  by_cases c0 : a < f (B + 6 * j)
  · rw [if_pos c0]
    exact ⟨fun h => absurd h (by decide), fun h => absurd (Or.inl (i_lt c0)) h⟩
  · rw [if_neg c0]
    have d0 := i_nlt c0
    by_cases c1 : a = f (B + 6 * j)
    · rw [if_pos c1]
      by_cases c2 : f (B + 6 * j + 1) ≤ b
      · rw [if_pos c2]
        have d2 := i_le c2
        exact ⟨fun _ q => by rcases q with q | ⟨_, q⟩ <;> omega, fun _ => rfl⟩
      · rw [if_neg c2]
        exact ⟨fun h => absurd h (by decide), fun h => absurd (Or.inr ⟨c1.symm, i_nle c2⟩) h⟩
    · rw [if_neg c1]
      exact ⟨fun _ q => by
        rcases q with q | ⟨q, _⟩
        · omega
        · exact c1 q.symm, fun _ => rfl⟩
/-- six fields of one row go one row on -/
theorem pa_in {th dc tl xl fo fa mn ft wl x y1 y2 y3 y4 y5 y6 : Int32} {rw ct : Nat → Int32} {X : Nat} (hx : x.toInt = (X : Int)) (hX : X ≤ 1) {k : Int32} {K : Nat} (hk : k.toInt = ((K + 1 : Nat) : Int)) (hK : K ≤ 300) : ∀ (d n F : Nat) (f : Int32) (rz : Nat → Int32), f.toInt = (F : Int) → F + d = 6 → ∃ r', fX9_put_A th dc tl xl fo fa mn ft wl rw ct x y1 y2 y3 y4 y5 y6 (n + d + 1) 137 k f rz = fX9_put_A th dc tl xl fo fa mn ft wl rw ct x y1 y2 y3 y4 y5 y6 n 110 (k + (-1)) 0 r' ∧ ∀ i : Nat, r' i = if 1800 * X + 6 * K + 6 + F ≤ i ∧ i < 1800 * X + 6 * K + 12 then rz (i - 6) else rz i := by
  have h6 : (6 : Int32).toInt = 6 := by decide
  intro d
  induction d with
  | zero =>
    intro n F f rz hf hd
    refine ⟨rz, ?_, fun i => (if_neg (by omega)).symm⟩
    rw [fX9_put_A, if_neg (by decide), if_pos (Int32.le_iff_toInt_le.mpr (by omega))]
  | succ d ih =>
    intro n F f rz hf hd
    have e := iu_1 hf (by omega)
    have ek : (k - 1).toInt = (K : Int) := by rw [im_1 hk (by omega)]; omega
    obtain ⟨r', a1, a2⟩ := ih n (F + 1) (f + 1) (upd rz (((1800 * x) + (6 * k)) + f).toNatClampNeg (rz (((1800 * x) + (6 * (k - 1))) + f).toNatClampNeg)) e (by omega)
    refine ⟨r', ?_, fun i => ?_⟩
    · rw [← a1, show n + (d + 1) + 1 = (n + d + 1) + 1 from by omega]
      conv => lhs; rw [fX9_put_A, if_neg (by decide), if_neg (fun q => by have := i_le q; omega)]
    · rw [a2, rowc hx hX hk (by omega) hf (by omega), rowc hx hX ek (by omega) hf (by omega)]
      by_cases c : 1800 * X + 6 * K + 6 + (F + 1) ≤ i ∧ i < 1800 * X + 6 * K + 12
      · rw [if_pos c, if_pos (by omega), upd_ne (by omega)]
      · rw [if_neg c]
        by_cases q : i = 1800 * X + 6 * (K + 1) + F
        · rw [q, upd_eq, if_pos (by omega)]; congr 1; omega
        · rw [upd_ne q, if_neg (by omega)]
def g2r (y3 : Int32) : Int32 := if 0 ≤ y3 then y3 else -1
def g3r (y3 y : Int32) : Int32 := if 0 ≤ y3 then y else 0
def g5r (y3 y6 : Int32) : Int32 := if y3 < 0 then -1 else if 0 ≤ y6 then y6 else -1
set_option maxHeartbeats 4000000 in
theorem pa_rows {th dc tl xl fo fa mn ft wl x y1 y2 y3 y4 y5 y6 : Int32} {rw ct : Nat → Int32} {X : Nat} (hx : x.toInt = (X : Int)) (hX : X ≤ 1) : ∀ (K n : Nat) (k : Int32) (rz : Nat → Int32), k.toInt = (K : Int) → K ≤ 300 → 8 * K + 7 < n → ∃ p : Nat, p ≤ K ∧ (∀ j : Nat, p ≤ j → j < K → BeyR rz (1800 * X) y1 y2 j) ∧ (∀ j : Nat, j + 1 = p → ¬ BeyR rz (1800 * X) y1 y2 j) ∧ Row6 rz (fX9_put_A th dc tl xl fo fa mn ft wl rw ct x y1 y2 y3 y4 y5 y6 n 110 k 0 rz).2.2.1 (1800 * X) p K y1 y2 (g2r y3) (g3r y3 y4) (g3r y3 y5) (g5r y3 y6) := by
  intro K
  have fin : ∀ (K : Nat) (k : Int32) (rz : Nat → Int32), k.toInt = (K : Int) → K ≤ 300 → Row6 rz (upd (upd (upd (upd (upd (upd rz ((1800 * x) + (6 * k)).toNatClampNeg y1) (((1800 * x) + (6 * k)) + 1).toNatClampNeg y2) (((1800 * x) + (6 * k)) + 2).toNatClampNeg (g2r y3)) (((1800 * x) + (6 * k)) + 3).toNatClampNeg (g3r y3 y4)) (((1800 * x) + (6 * k)) + 4).toNatClampNeg (g3r y3 y5)) (((1800 * x) + (6 * k)) + 5).toNatClampNeg (g5r y3 y6)) (1800 * X) K K y1 y2 (g2r y3) (g3r y3 y4) (g3r y3 y5) (g5r y3 y6) := fun K k rz hk hK => by
    rw [show ((1800 * x) + (6 * k)).toNatClampNeg = 1800 * X + 6 * K from cl_of (rowx hx hX hk (by omega)), rowc hx hX hk (by omega) (n := 1) (c := 1) (by decide) (by omega), rowc hx hX hk (by omega) (n := 2) (c := 2) (by decide) (by omega), rowc hx hX hk (by omega) (n := 3) (c := 3) (by decide) (by omega), rowc hx hX hk (by omega) (n := 4) (c := 4) (by decide) (by omega), rowc hx hX hk (by omega) (n := 5) (c := 5) (by decide) (by omega)]
    exact row6_0
  induction K with
  | zero =>
    intro n k rz hk hK hn
    obtain ⟨n, rfl⟩ : ∃ q, n = q + 1 := ⟨n - 1, by omega⟩
    refine ⟨0, by omega, fun j _ h => absurd h (by omega), fun j h => absurd h (by omega), ?_⟩
    have f := fin 0 k rz hk (by omega)
    rw [fX9_put_A, if_pos rfl, if_pos (Int32.le_iff_toInt_le.mpr (by rw [Int32.toInt_zero]; omega))]
    unfold g2r g3r g5r at f ⊢
    repeat' split
    all_goals simp_all only [if_true, if_false, ite_true, ite_false, reduceIte]
  | succ K ih =>
    intro n k rz hk hK hn
    obtain ⟨n, rfl⟩ : ∃ q, n = q + 1 := ⟨n - 1, by omega⟩
    have ek : (k - 1).toInt = (K : Int) := by rw [im_1 hk (by omega)]; omega
    have ed : (k + (-1)).toInt = (K : Int) := by rw [id_1 hk (by omega)]; omega
    have hb := bey_r (th := 0) (dc := dc) (tl := tl) (xl := xl) (fo := fo) (fa := fa) (mn := mn) (ft := ft) (wl := wl) (f := rz) (a := y1) (b := y2) (cl_of (rowx hx hX ek (by omega))) (rowc hx hX ek (by omega) (n := 1) (c := 1) (by decide) (by omega))
    rw [fX9_put_A, if_pos rfl, if_neg (fun q => by have := i_le q; rw [Int32.toInt_zero] at this; omega)]
    simp only [bnd]
    by_cases c : fX9_isBefore 0 dc tl xl fo fa mn ft wl rz ((1800 * x) + (6 * (k - 1))) y1 y2 = 0
    · refine ⟨K + 1, by omega, fun j _ h => absurd h (by omega), fun j h => ?_, ?_⟩
      · have : j = K := by omega
        rw [this]; exact hb.mp c
      · have f := fin (K + 1) k rz hk (by omega)
        rw [if_pos c]
        clear hb ih c fin
        unfold g2r g3r g5r at f ⊢
        repeat' split
        all_goals simp_all only [if_true, if_false, ite_true, ite_false, reduceIte]
    · rw [if_neg c]
      obtain ⟨r', a1, a2⟩ := pa_in (th := th) (dc := dc) (tl := tl) (xl := xl) (fo := fo) (fa := fa) (mn := mn) (ft := ft) (wl := wl) (y1 := y1) (y2 := y2) (y3 := y3) (y4 := y4) (y5 := y5) (y6 := y6) (rw := rw) (ct := ct) hx hX hk (by omega) 6 (n - 7) 0 0 rz (by decide) (by omega)
      rw [show n = (n - 7) + 6 + 1 from by omega, a1]
      obtain ⟨p, p1, p2, p3, p4⟩ := ih (n - 7) (k + (-1)) r' ed (by omega) (by omega)
      have lo : ∀ j, j ≤ K → (BeyR r' (1800 * X) y1 y2 j ↔ BeyR rz (1800 * X) y1 y2 j) := fun j hj => by
        unfold BeyR
        rw [a2, a2, if_neg (by omega), if_neg (by omega)]
      refine ⟨p, by omega, fun j h1 h2 => ?_, fun j h1 => ?_, fun i => ?_⟩
      · by_cases q : j = K
        · rw [q]; exact Classical.byContradiction (fun z => c (hb.mpr z))
        · exact (lo j (by omega)).mp (p2 j h1 (by omega))
      · exact fun q => p3 j h1 ((lo j (by omega)).mpr q)
      · rw [p4 i]
        by_cases d1 : 1800 * X + 6 * p ≤ i ∧ i < 1800 * X + 6 * p + 6
        · rw [if_pos d1, if_pos d1]
        · rw [if_neg d1, if_neg d1]
          by_cases d2 : 1800 * X + 6 * p + 6 ≤ i ∧ i < 1800 * X + 6 * K + 6
          · rw [if_pos d2, if_pos (by omega), a2, if_neg (by omega)]
          · rw [if_neg d2, a2]
            by_cases d3 : 1800 * X + 6 * K + 6 + 0 ≤ i ∧ i < 1800 * X + 6 * K + 12
            · rw [if_pos d3, if_pos (by omega)]
            · rw [if_neg d3, if_neg (by omega)]
