/-! what the tables and the Statement's words give at the law's entry -/
theorem g_arr {s : State} {args : Array Value} {ty : FieldType} (h : (Cond.arrayClass ty).before args s = true) (hp : ∀ C, ty ≠ .object C) : ∃ cA : ClassId, ArrOfT s cA ty ∧ va_RA s cA ty := by
  obtain ⟨cA, kA, comp, h1, h2, h3⟩ := Cond.arrayClass_spec h
  refine ⟨cA, fun n z => ⟨fun k h => (by cases h), kA, h2, comp, h3⟩, ?_⟩
  cases ty with
  | object C => exact absurd rfl (hp C)
  | _ => exact h1
set_option maxRecDepth 20000 in
theorem nst_in : ∀ w ∈ nst, w ∈ lw_tbl := by decide +kernel
theorem nst_ot : ∀ w ∈ nst, w.onTables = true := by decide +kernel
theorem st_gk {s : State} {b : Nat} (hts : ∀ w ∈ lw_tbl, w.before #[Value.ref b] s = true) : ∃ (dC : Nat → ClassId) (dI : Nat → Nat → Nat) (cB cC cI cJ : ClassId), gk dC dI cB cC cI cJ s := by
  obtain ⟨c0, i0, K0⟩ := u_known (C := RX0) (T := TX0) (N := 5) (n := 5) hts inX0 (hts (.instantiable RX0 5) (by decide +kernel))
  obtain ⟨c1, i1, K1⟩ := u_known (C := RX1) (T := TX1) (N := 5) (n := 5) hts inX1 (hts (.instantiable RX1 5) (by decide +kernel))
  obtain ⟨c2, i2, K2⟩ := u_known (C := RX2) (T := TX2) (N := 11) (n := 11) hts inX2 (hts (.instantiable RX2 11) (by decide +kernel))
  obtain ⟨c3, i3, K3⟩ := u_known (C := RX3) (T := TX3) (N := 6) (n := 6) hts inX3 (hts (.instantiable RX3 6) (by decide +kernel))
  obtain ⟨c4, i4, K4⟩ := u_known (C := RX4) (T := TX4) (N := 7) (n := 7) hts inX4 (hts (.instantiable RX4 7) (by decide +kernel))
  obtain ⟨c5, i5, K5⟩ := u_known (C := RX5) (T := TX5) (N := 2) (n := 2) hts inX5 (hts (.instantiable RX5 2) (by decide +kernel))
  obtain ⟨c6, i6, K6⟩ := u_known (C := RX6) (T := TX6) (N := 3) (n := 3) hts inX6 (hts (.instantiable RX6 3) (by decide +kernel))
  obtain ⟨c7, i7, K7⟩ := u_known (C := RX7) (T := TX7) (N := 4) (n := 4) hts inX7 (hts (.instantiable RX7 4) (by decide +kernel))
  obtain ⟨c8, i8, K8⟩ := u_known (C := RX8) (T := TX8) (N := 8) (n := 8) hts inX8 (hts (.instantiable RX8 8) (by decide +kernel))
  obtain ⟨c9, i9, K9⟩ := u_known (C := RX9) (T := TX9) (N := 17) (n := 17) hts inX9 (hts (.instantiable RX9 17) (by decide +kernel))
  obtain ⟨cB, hB⟩ := g_arr (hts (.arrayClass .byte) (by decide +kernel)) (fun C h => by cases h)
  obtain ⟨cC, hC⟩ := g_arr (hts (.arrayClass .char) (by decide +kernel)) (fun C h => by cases h)
  obtain ⟨cI, hI⟩ := g_arr (hts (.arrayClass .int) (by decide +kernel)) (fun C h => by cases h)
  obtain ⟨cJ, hJ⟩ := g_arr (hts (.arrayClass .long) (by decide +kernel)) (fun C h => by cases h)
  refine ⟨fun k => if k = 0 then c0 else if k = 1 then c1 else if k = 2 then c2 else if k = 3 then c3 else if k = 4 then c4 else if k = 5 then c5 else if k = 6 then c6 else if k = 7 then c7 else if k = 8 then c8 else c9, fun k => if k = 0 then i0 else if k = 1 then i1 else if k = 2 then i2 else if k = 3 then i3 else if k = 4 then i4 else if k = 5 then i5 else if k = 6 then i6 else if k = 7 then i7 else if k = 8 then i8 else i9, cB, cC, cI, cJ, ⟨fun k q hq => ?_, fun k q hq => ?_⟩, fun w hw => va_Nw.of (nst_ot w hw) (hts w (nst_in w hw))⟩
  · match k, hq with
    | 0, hq => cases hq; exact K0
    | 1, hq => cases hq; exact K1
    | 2, hq => cases hq; exact K2
    | 3, hq => cases hq; exact K3
    | 4, hq => cases hq; exact K4
    | 5, hq => cases hq; exact K5
    | 6, hq => cases hq; exact K6
    | 7, hq => cases hq; exact K7
    | 8, hq => cases hq; exact K8
    | 9, hq => cases hq; exact K9
    | k + 10, hq => simp [vwCl] at hq
  · match k, hq with
    | 0, hq => cases hq; exact hB
    | 1, hq => cases hq; exact hC
    | 2, hq => cases hq; exact hI
    | 3, hq => cases hq; exact hJ
    | k + 4, hq => simp [tyL] at hq
set_option maxRecDepth 20000 in
theorem el_in : ∀ j, j < 64 → Cond.eq (.elem (.field (.string RX2 92) "java/lang/String" "value" "[B") (.int (Int32.ofNat j))) (.int (digL.getD j 0)) ∈ flatC (Jvm.Cond.and given_1 narrow_1) := by decide +kernel
set_option maxRecDepth 20000 in
theorem st_SK {s : State} {b : Nat} {A : Nat → Prop} (hts : ∀ w ∈ lw_tbl, w.before #[Value.ref b] s = true) (hgv : (Jvm.Cond.and given_1 narrow_1).before #[Value.ref b] s = true) (hA : ∀ a : Nat, a < s.heap.size → ¬ A a) : ∃ ak av : Nat, SK ak av A s s.heap ∧ (vk_R RX2 92 DIG ak s ∧ vk_R RX6 23 DIG ak s) := by
  have hs := flat_of_before _ hgv
  obtain ⟨adK, adV, hS, hE⟩ := vk_Sof (args := #[Value.ref b]) (s := s) (N := 1) (tm := fun _ => .string RX2 92) (len := [64]) (byt := [digL]) (A := A) (fun i hi => by have e : i = 0 := Nat.lt_one_iff.mp hi; subst e; decide) (fun i hi => by have e : i = 0 := Nat.lt_one_iff.mp hi; subst e; exact hs (.exactly (.string RX2 92) "java/lang/String") (by decide +kernel)) (fun i hi => by have e : i = 0 := Nat.lt_one_iff.mp hi; subst e; exact hs (.eq (.field (.string RX2 92) "java/lang/String" "coder" "B") (.int 0)) (by decide +kernel)) (fun i hi => by have e : i = 0 := Nat.lt_one_iff.mp hi; subst e; exact hs (.arrayOf (.field (.string RX2 92) "java/lang/String" "value" "[B") .byte) (by decide +kernel)) (fun i hi => by have e : i = 0 := Nat.lt_one_iff.mp hi; subst e; exact hs (.eq (.length (.field (.string RX2 92) "java/lang/String" "value" "[B")) (.int 64)) (by decide +kernel)) (fun i hi j hj => by have e : i = 0 := Nat.lt_one_iff.mp hi; subst e; exact hs _ (el_in j hj)) (fun i j hi hj h => absurd (by omega) h) hA
  obtain ⟨h1, -⟩ := hS
  obtain ⟨s1, s2, s3, s4⟩ := h1 0 (by omega)
  have e0 := hE 0 (by omega)
  refine ⟨adK 0, adV 0, ⟨s1, s2, s3, s4, ?_, ?_⟩, ?_, ?_⟩
  · exact va_Zof (hts (.laysStatic "java/lang/String" "COMPACT_STRINGS" "Z") (by decide +kernel)) (hts (.initialized "java/lang/String") (by decide +kernel)) (va_eqi (hs (.eq (.static "java/lang/String" "COMPACT_STRINGS" "Z") (.int 1)) (by decide +kernel))) hA
  · exact va_Zqof (hts (.laysStatic "jdk/internal/util/Preconditions" "SIOOBE_FORMATTER" "Ljava/util/function/BiFunction;") (by decide +kernel)) (hts (.initialized "jdk/internal/util/Preconditions") (by decide +kernel)) (hs (.isRef (.static "jdk/internal/util/Preconditions" "SIOOBE_FORMATTER" "Ljava/util/function/BiFunction;")) (by decide +kernel)) hA
  · exact vk_R.of (A := #[Value.ref b]) (hts (.stringRef RX2 92 DIG) (by decide +kernel)) e0
  · exact vk_R.of (A := #[Value.ref b]) (hts (.stringRef RX6 23 DIG) (by decide +kernel)) (va_eqR (hs (.eq (.string RX2 92) (.string RX6 23)) (by decide +kernel)) e0)
set_option maxRecDepth 20000 in
theorem st_XK {s : State} {b : Nat} {A : Nat → Prop} (hts : ∀ w ∈ lw_tbl, w.before #[Value.ref b] s = true) (hgv : (Jvm.Cond.and given_1 narrow_1).before #[Value.ref b] s = true) (hA : ∀ a : Nat, a < s.heap.size → ¬ A a) : XK A s s.heap := by
  have hs := flat_of_before _ hgv
  refine ⟨vx_Zqof (hts (.laysStatic Bundle.tN "UNASSIGNED_STACK" Bundle.steD) (by decide +kernel)) (hts (.initialized Bundle.tN) (by decide +kernel)) (hs (.isRef (.static Bundle.tN "UNASSIGNED_STACK" Bundle.steD)) (by decide +kernel)) hA, vx_Zqof (hts (.laysStatic Bundle.tN "SUPPRESSED_SENTINEL" Bundle.listD) (by decide +kernel)) (hts (.initialized Bundle.tN) (by decide +kernel)) (hs (.isRef (.static Bundle.tN "SUPPRESSED_SENTINEL" Bundle.listD)) (by decide +kernel)) hA, va_Nw.of rfl (hts (.castable NSE NSE) (by decide +kernel)), va_Nw.of rfl (hts (.declares (Bundle.init0 "java/lang/RuntimeException")) (by decide +kernel)), va_Nw.of rfl (hts (.declares (Bundle.init0 "java/lang/Exception")) (by decide +kernel)), va_Nw.of rfl (hts (.declares (Bundle.init0 Bundle.tN)) (by decide +kernel))⟩
