/-! rows of both sides: where the last hit stands; one put behind another -/
theorem k_1 : (1 : Int32).toInt = 1 := by decide
theorem k_m1 : (-1 : Int32).toInt = -1 := by decide
theorem cl_of {x : Int32} {n : Nat} (h : x.toInt = (n : Int)) : x.toNatClampNeg = n := by
  show x.toInt.toNat = n
  omega
theorem iu_1 {k : Int32} {K : Nat} (h : k.toInt = (K : Int)) (hK : K ≤ 100000) : (k + 1).toInt = ((K + 1 : Nat) : Int) := by
  rw [ti_add (by rw [k_1]; omega) (by rw [k_1]; omega), k_1]; omega
theorem id_1 {k : Int32} {K : Nat} (h : k.toInt = (K : Int)) (hK : K ≤ 100000) : (k + (-1)).toInt = (K : Int) - 1 := by
  rw [ti_add (by rw [k_m1]; omega) (by rw [k_m1]; omega), k_m1]; omega
theorem im_1 {k : Int32} {K : Nat} (h : k.toInt = (K : Int)) (hK : K ≤ 100000) : (k - 1).toInt = (K : Int) - 1 := by
  rw [ti_sub (by rw [k_1]; omega) (by rw [k_1]; omega), k_1]; omega
theorem rowx {x k : Int32} {X K : Nat} (hx : x.toInt = (X : Int)) (hX : X ≤ 1) (hk : k.toInt = (K : Int)) (hK : K ≤ 1000) : ((1800 * x) + (6 * k)).toInt = ((1800 * X + 6 * K : Nat) : Int) := by
  rw [rowi (by omega) (by omega) (by omega) (by omega)]; omega
theorem rowc {x k c : Int32} {X K n : Nat} (hx : x.toInt = (X : Int)) (hX : X ≤ 1) (hk : k.toInt = (K : Int)) (hK : K ≤ 1000) (hc : c.toInt = (n : Int)) (hn : n ≤ 6) : (((1800 * x) + (6 * k)) + c).toNatClampNeg = 1800 * X + 6 * K + n := by
  have e := rowx hx hX hk hK
  exact cl_of (by rw [ti_add (by omega) (by omega)]; omega)
theorem r6c {k c : Int32} {K n : Nat} (hk : k.toInt = (K : Int)) (hK : K ≤ 1000) (hc : c.toInt = (n : Int)) (hn : n ≤ 6) : ((6 * k) + c).toNatClampNeg = 6 * K + n := by
  have e := six (k := k) (by omega) (by omega)
  exact cl_of (by rw [ti_add (by omega) (by omega)]; omega)
theorem r18c {k c : Int32} {K n : Nat} (hk : k.toInt = (K : Int)) (hK : K ≤ 1000) (hc : c.toInt = (n : Int)) (hn : n ≤ 6) : ((1800 + (6 * k)) + c).toNatClampNeg = 1800 + 6 * K + n := by
  have e := six (k := k) (by omega) (by omega)
  have k8 : (1800 : Int32).toInt = 1800 := by decide
  have e2 : (1800 + (6 * k)).toInt = 1800 + 6 * (K : Int) := by rw [ti_add (by omega) (by omega)]; omega
  exact cl_of (by rw [ti_add (by omega) (by omega)]; omega)
theorem upd_eq {f : Nat → Int32} {k : Nat} {x : Int32} : upd f k x k = x := if_pos rfl
theorem upd_ne {f : Nat → Int32} {k j : Nat} {x : Int32} (h : j ≠ k) : upd f k x j = f j := if_neg h
theorem nn_lt {x : Int32} (h : x < 0) : x.toInt < 0 := by have := i_lt h; rw [Int32.toInt_zero] at this; exact this
theorem nn_ge {x : Int32} (h : ¬ x < 0) : 0 ≤ x.toInt := by have := i_nlt h; rw [Int32.toInt_zero] at this; exact this
theorem z_le {x : Int32} (h : 0 ≤ x.toInt) : (0 : Int32) ≤ x := Int32.le_iff_toInt_le.mpr (by rw [Int32.toInt_zero]; exact h)
theorem z_nle {x : Int32} (h : x.toInt < 0) : ¬ (0 : Int32) ≤ x := fun q => by have := i_le q; rw [Int32.toInt_zero] at this; omega
theorem z_lt {x : Int32} (h : x.toInt < 0) : x < 0 := Int32.lt_iff_toInt_lt.mpr (by rw [Int32.toInt_zero]; exact h)
def HitC (t0 t1 : Nat → Int32) (y z : Int32) (j : Nat) : Prop := t0 j = y ∧ (t1 j).toInt ≤ z.toInt
theorem ft7 {cn : Int32} {t0 t1 t2 : Nat → Int32} {y z : Int32} : ∀ (m n : Nat) (i : Int32), i.toInt + 1 = (m : Int) → m ≤ 300 → m < n → ∀ r, r = fX4_findTelling_7 cn t0 t1 t2 y z n i → ((∀ j : Nat, j < m → ¬ HitC t0 t1 y z j) ∧ r = -1) ∨ ∃ j : Nat, j < m ∧ HitC t0 t1 y z j ∧ (∀ i : Nat, j < i → i < m → ¬ HitC t0 t1 y z i) ∧ ((0 ≤ (t2 j).toInt ∧ r = nI j) ∨ ((t2 j).toInt < 0 ∧ r = -1)) := by
  intro m
  induction m with
  | zero =>
    intro n i hi _ hn r hr
    obtain ⟨n, rfl⟩ : ∃ q, n = q + 1 := ⟨n - 1, by omega⟩
    rw [fX4_findTelling_7, if_pos (z_lt (by omega))] at hr
    exact Or.inl ⟨fun j hj => absurd hj (by omega), hr⟩
  | succ m ih =>
    intro n i hi hm hn r hr
    obtain ⟨n, rfl⟩ : ∃ q, n = q + 1 := ⟨n - 1, by omega⟩
    have him : i.toInt = (m : Int) := by omega
    have hc : i.toNatClampNeg = m := cl_of him
    have e := id_1 him (by omega)
    rw [fX4_findTelling_7, if_neg (i_z (by omega)), hc] at hr
    have step : ¬ HitC t0 t1 y z m → r = fX4_findTelling_7 cn t0 t1 t2 y z n (i + (-1)) → ((∀ j : Nat, j < m + 1 → ¬ HitC t0 t1 y z j) ∧ r = -1) ∨ ∃ j : Nat, j < m + 1 ∧ HitC t0 t1 y z j ∧ (∀ i : Nat, j < i → i < m + 1 → ¬ HitC t0 t1 y z i) ∧ ((0 ≤ (t2 j).toInt ∧ r = nI j) ∨ ((t2 j).toInt < 0 ∧ r = -1)) := fun hno hr => by
      rcases ih n (i + (-1)) (by omega) (by omega) (by omega) r hr with ⟨a, b⟩ | ⟨j, a, b, c, d⟩
      · exact Or.inl ⟨fun j hj => by
          by_cases q : j = m
          · rw [q]; exact hno
          · exact a j (by omega), b⟩
      · exact Or.inr ⟨j, by omega, b, fun i h1 h2 => by
          by_cases q : i = m
          · rw [q]; exact hno
          · exact c i h1 (by omega), d⟩
    by_cases c0 : t0 m = y
    · rw [if_pos c0] at hr
      by_cases c1 : z < t1 m
      · rw [if_pos c1] at hr
        exact step (fun q => absurd q.2 (by have := i_lt c1; omega)) hr
      · rw [if_neg c1] at hr
        refine Or.inr ⟨m, by omega, ⟨c0, i_nlt c1⟩, fun i h1 h2 => absurd h2 (by omega), ?_⟩
        unfold fX4_tells at hr
        simp only [bnd, hc] at hr
        by_cases c2 : t2 m < 0
        · rw [if_pos c2, if_pos rfl] at hr
          exact Or.inr ⟨nn_lt c2, hr⟩
        · rw [if_neg c2, if_neg (by decide)] at hr
          exact Or.inl ⟨nn_ge c2, by rw [hr]; exact Int32.toInt_inj.mp (by rw [nI_toInt (by omega)]; omega)⟩
    · rw [if_neg c0] at hr
      exact step (fun q => c0 q.1) hr
def HitR (f : Nat → Int32) (B : Nat) (y z : Int32) (j : Nat) : Prop := f (B + 6 * j) = y ∧ (f (B + 6 * j + 1)).toInt ≤ z.toInt
def LastR (f : Nat → Int32) (B : Nat) (y z : Int32) (m : Nat) (r : Int32) : Prop := ((∀ j : Nat, j < m → ¬ HitR f B y z j) ∧ r = -1) ∨ ∃ j : Nat, j < m ∧ HitR f B y z j ∧ (∀ i : Nat, j < i → i < m → ¬ HitR f B y z i) ∧ r = nI j
theorem so6 {th dc tl xl fo fa mn ft wl : Int32} {rw ct : Nat → Int32} {x y z : Int32} {X C : Nat} (hx : x.toInt = (X : Int)) (hX : X ≤ 1) (hC : (ct x.toNatClampNeg).toInt = (C : Int)) (hC3 : C ≤ 300) : ∀ (d n : Nat) (hi k : Int32) (K : Nat), k.toInt = (K : Int) → K + d = C → d < n → LastR rw (1800 * X) y z K hi → LastR rw (1800 * X) y z C (fX9_segmentOf_6 th dc tl xl fo fa mn ft wl rw ct x y z n hi k) := by
  intro d
  induction d with
  | zero =>
    intro n hi k K hk hd hn h
    obtain ⟨n, rfl⟩ : ∃ q, n = q + 1 := ⟨n - 1, by omega⟩
    rw [fX9_segmentOf_6, if_pos (Int32.le_iff_toInt_le.mpr (by omega))]
    have : K = C := by omega
    rw [← this]; exact h
  | succ d ih =>
    intro n hi k K hk hd hn h
    obtain ⟨n, rfl⟩ : ∃ q, n = q + 1 := ⟨n - 1, by omega⟩
    have e := iu_1 hk (by omega)
    rw [fX9_segmentOf_6, if_neg (fun q => by have := i_le q; omega), show ((1800 * x) + (6 * k)).toNatClampNeg = 1800 * X + 6 * K from cl_of (rowx hx hX hk (by omega)), rowc hx hX hk (by omega) (n := 1) k_1 (by omega)]
    have no : ¬ HitR rw (1800 * X) y z K → LastR rw (1800 * X) y z (K + 1) hi := fun hno => by
      rcases h with ⟨a, b⟩ | ⟨j, a, b, c, d⟩
      · exact Or.inl ⟨fun j hj => by
          by_cases q : j = K
          · rw [q]; exact hno
          · exact a j (by omega), b⟩
      · exact Or.inr ⟨j, by omega, b, fun i h1 h2 => by
          by_cases q : i = K
          · rw [q]; exact hno
          · exact c i h1 (by omega), d⟩
    by_cases c0 : rw (1800 * X + 6 * K) = y
    · rw [if_pos c0]
      by_cases c1 : z < rw (1800 * X + 6 * K + 1)
      · rw [if_pos c1]
        exact ih n hi (k + 1) (K + 1) e (by omega) (by omega) (no (fun q => absurd q.2 (by have := i_lt c1; omega)))
      · rw [if_neg c1]
        exact ih n k (k + 1) (K + 1) e (by omega) (by omega) (Or.inr ⟨K, by omega, ⟨c0, i_nlt c1⟩, fun i h1 h2 => absurd h2 (by omega), Int32.toInt_inj.mp (by rw [nI_toInt (by omega)]; exact hk)⟩)
    · rw [if_neg c0]
      exact ih n hi (k + 1) (K + 1) e (by omega) (by omega) (no (fun q => c0 q.1))
theorem rw_at {cn : Int32} {t0 t1 t2 t3 t4 t5 rr : Nat → Int32} {B j : Nat} (h : RW cn t0 t1 t2 t3 t4 t5 (fun j => rr (B + j))) (hj : (j : Int) < cn.toInt) : rr (B + 6 * j) = t0 j ∧ rr (B + 6 * j + 1) = t1 j ∧ rr (B + 6 * j + 2) = t2 j ∧ (0 ≤ (t2 j).toInt → rr (B + 6 * j + 3) = t3 j ∧ rr (B + 6 * j + 4) = t4 j) ∧ rr (B + 6 * j + 5) = t5 j ∧ NSj t0 t1 t2 t3 t4 j := h j hj
/-- the class's search and the reference's come out at one place -/
theorem ft_so {th dc tl xl fo fa mn ft wl : Int32} {rr ct : Nat → Int32} {x y z cn : Int32} {t0 t1 t2 t3 t4 t5 : Nat → Int32} {X : Nat} (hx : x.toInt = (X : Int)) (hX : X ≤ 1) (hc : cn = ct x.toNatClampNeg) (h0 : 0 ≤ cn.toInt) (h3 : cn.toInt ≤ 300) (hR : RW cn t0 t1 t2 t3 t4 t5 (fun j => rr (1800 * X + j))) :
    (fX4_findTelling cn t0 t1 t2 y z = -1 ∧ (fX9_segmentOf th dc tl xl fo fa mn ft wl rr ct x y z = -1 ∨ ∃ j : Nat, (j : Int) < cn.toInt ∧ fX9_segmentOf th dc tl xl fo fa mn ft wl rr ct x y z = nI j ∧ (t2 j).toInt < 0)) ∨ ∃ j : Nat, (j : Int) < cn.toInt ∧ fX4_findTelling cn t0 t1 t2 y z = nI j ∧ fX9_segmentOf th dc tl xl fo fa mn ft wl rr ct x y z = nI j ∧ 0 ≤ (t2 j).toInt := by
  obtain ⟨C, hC⟩ : ∃ C : Nat, cn.toInt = (C : Int) := ⟨cn.toInt.toNat, by omega⟩
  have a := ft7 (cn := cn) (t0 := t0) (t1 := t1) (t2 := t2) (y := y) (z := z) C 302 (cn - 1) (by rw [im_1 hC (by omega)]; omega) (by omega) (by omega) _ rfl
  have b := so6 (th := th) (dc := dc) (tl := tl) (xl := xl) (fo := fo) (fa := fa) (mn := mn) (ft := ft) (wl := wl) (rw := rr) (ct := ct) (y := y) (z := z) hx hX (C := C) (by rw [← hc]; exact hC) (by omega) C 301 (-1) 0 0 (by decide) (by omega) (by omega) (Or.inl ⟨fun j hj => absurd hj (by omega), rfl⟩)
  have hit : ∀ j : Nat, j < C → (HitC t0 t1 y z j ↔ HitR rr (1800 * X) y z j) := fun j hj => by
    obtain ⟨q0, q1, _⟩ := rw_at hR (j := j) (by omega)
    unfold HitC HitR
    rw [q0, q1]
  unfold fX4_findTelling fX9_segmentOf
  rcases a with ⟨a1, a2⟩ | ⟨j, a1, a2, a3, a4⟩
  · rcases b with ⟨b1, b2⟩ | ⟨i, b1, b2, b3, b4⟩
    · exact Or.inl ⟨a2, Or.inl b2⟩
    · exact absurd ((hit i b1).mpr b2) (a1 i b1)
  · rcases b with ⟨b1, b2⟩ | ⟨i, b1, b2, b3, b4⟩
    · exact absurd ((hit j a1).mp a2) (b1 j a1)
    · have e : i = j := by
        rcases Nat.lt_trichotomy i j with q | q | q
        · exact absurd ((hit j a1).mp a2) (b3 j q a1)
        · exact q
        · exact absurd ((hit i b1).mpr b2) (a3 i q b1)
      subst e
      rcases a4 with ⟨a5, a6⟩ | ⟨a5, a6⟩
      · exact Or.inr ⟨i, by omega, a6, b4, a5⟩
      · exact Or.inl ⟨a6, Or.inr ⟨i, by omega, b4, a5⟩⟩
