/-! the one String constant of the class, as its methods read it -/
abbrev DIG : String := "ABCDEFGHIJKLMNOPQRSTUVWXYZabcdefghijklmnopqrstuvwxyz0123456789+/"
def digL : List Int32 := [65, 66, 67, 68, 69, 70, 71, 72, 73, 74, 75, 76, 77, 78, 79, 80, 81, 82, 83, 84, 85, 86, 87, 88, 89, 90, 97, 98, 99, 100, 101, 102, 103, 104, 105, 106, 107, 108, 109, 110, 111, 112, 113, 114, 115, 116, 117, 118, 119, 120, 121, 122, 48, 49, 50, 51, 52, 53, 54, 55, 56, 57, 43, 47]
def dig (j : Nat) : Int32 := digL.getD j 0
def SK (ak av : Nat) (A : Nat → Prop) (U : State) (H : Heap) : Prop := va_O "java/lang/String" ak A U H ∧ va_OF "java/lang/String" "coder" "B" (.int 0) ak A U H ∧ va_OF "java/lang/String" "value" "[B" (.ref av) ak A U H ∧ va_T .byte av 64 (fun j => .int (dig j)) A U H ∧ va_Z "java/lang/String" "COMPACT_STRINGS" "Z" (.int 1) A U H ∧ va_Zq "jdk/internal/util/Preconditions" "SIOOBE_FORMATTER" "Ljava/util/function/BiFunction;" A U H
theorem SK.moved {ak av : Nat} {A : Nat → Prop} {u U : State} {H : Heap} (hvm : u.vm.Alike U.vm) (h : SK ak av A u H) : SK ak av A U H := ⟨va_O.moved hvm h.1, va_OF.moved hvm h.2.1, va_OF.moved hvm h.2.2.1, va_T.moved hvm h.2.2.2.1, va_Z.moved hvm h.2.2.2.2.1, va_Zq.moved hvm h.2.2.2.2.2⟩
theorem SK.kept {ak av : Nat} {A : Nat → Prop} {U : State} {H H1 : Heap} (h : SK ak av A U H) (hq : ∀ a : Nat, a < H.size → ¬ A a → H1[a]? = H[a]?) : SK ak av A U H1 := ⟨h.1.kept hq, h.2.1.kept hq, h.2.2.1.kept hq, h.2.2.2.1.kept hq, h.2.2.2.2.1.kept hq, h.2.2.2.2.2.kept hq⟩
theorem SK.narrow {ak av : Nat} {A B : Nat → Prop} {U : State} {H : Heap} (h : SK ak av A U H) (hAB : ∀ q, B q → A q) : SK ak av B U H := ⟨h.1.narrow hAB, h.2.1.narrow hAB, h.2.2.1.narrow hAB, h.2.2.2.1.narrow hAB, h.2.2.2.2.1.narrow hAB, h.2.2.2.2.2.narrow hAB⟩
abbrev cS (ak av : Nat) (vs : List Value) : Array Value → State → Prop := va_Pc vs (fun U => SK ak av (fun _ => False) U U.heap)
theorem cS_blind {ak av : Nat} {vs : List Value} : FrameBlind (cS ak av vs) := fun a U g mk q => ⟨q.1, SK.moved (u := U) (U := U.calling g mk a) (Vm.Alike.refl U.vm) q.2⟩
theorem cS_pre {ak av : Nat} {vs : List Value} {A : Nat → Prop} {s : State} {H : Heap} {locs : List Loc} (h : SK ak av A s s.heap) (hS : va_S A s.heap H locs) : ∀ U : State, U.heap = H → s.WarmedH U.vm → cS ak av vs vs.toArray U := fun U hU hW => ⟨rfl, by show SK ak av (fun _ => False) U U.heap; rw [hU]; exact SK.moved hW.alike ((h.kept hS.2.1).narrow (fun _ q => q.elim))⟩
theorem SK_recv {ak av : Nat} {A : Nat → Prop} {s : State} {H : Heap} {locs : List Loc} (h : SK ak av A s s.heap) (hS : va_S A s.heap H locs) : ∃ cell : Cell, H[ak]? = some cell ∧ cell.vm.isStatics = false ∧ s.vm.findClass "java/lang/String" = some cell.cls := by
  obtain ⟨cell, h1, h2, h3, -⟩ := h.1.kept hS.2.1
  exact ⟨cell, h1, h2, h3⟩
abbrev cPs (dC : Nat → ClassId) (dI : Nat → Nat → Nat) (cB cC cI cJ : ClassId) (ak av : Nat) (vs : List Value) (sz : Nat) (ws : va_W) : Array Value → State → Prop := va_Pc vs (fun U => U.heap.size = sz ∧ va_P (dC, dI) vwCl ws U.heap ∧ gk dC dI cB cC cI cJ U ∧ va_D (fun _ => True) ws ∧ SK ak av (va_A ws sz) U U.heap ∧ (vk_R RX2 92 DIG ak U ∧ vk_R RX6 23 DIG ak U))
theorem cPs_blind {dC : Nat → ClassId} {dI : Nat → Nat → Nat} {cB cC cI cJ : ClassId} {ak av : Nat} {vs : List Value} {sz : Nat} {ws : va_W} : FrameBlind (cPs dC dI cB cC cI cJ ak av vs sz ws) := fun a U g mk q => by
  obtain ⟨q0, q1, qP, qK, qD, qS, qR⟩ := q
  exact ⟨q0, q1, qP, qK.same rfl, qD, SK.moved (u := U) (U := U.calling g mk a) (Vm.Alike.refl U.vm) qS, vk_R.same rfl qR.1, vk_R.same rfl qR.2⟩
theorem cPs_pre {dC : Nat → ClassId} {dI : Nat → Nat → Nat} {cB cC cI cJ : ClassId} {ak av : Nat} {vs : List Value} {ws : va_W} {A0 A : Nat → Prop} {s : State} {H : Heap} {locs : List Loc} (hP : va_P (dC, dI) vwCl ws H) (hG : gk dC dI cB cC cI cJ s) (hD : va_D A ws) (h : SK ak av A0 s s.heap) (hS : va_S A0 s.heap H locs) (hF : ∀ q, va_A ws H.size q → A0 q) (hR : vk_R RX2 92 DIG ak s ∧ vk_R RX6 23 DIG ak s) : ∀ U : State, U.heap = H → s.WarmedH U.vm → cPs dC dI cB cC cI cJ ak av vs H.size ws vs.toArray U := fun U hU hW => ⟨rfl, by rw [hU], by rw [hU]; exact hP, hG.warm hW, hD.weaken (fun _ _ _ _ => trivial), by rw [hU]; exact SK.moved hW.alike ((h.kept hS.2.1).narrow hF), vk_R.warm hW hR.1, vk_R.warm hW hR.2⟩
theorem mx0 (y : Int32) : 0 ≤ (if y < 0 then 0 else y : Int32).toInt := by
  by_cases c : y < 0
  · rw [if_pos c]; decide
  · rw [if_neg c]; have := i_nlt c; rw [Int32.toInt_zero] at this; exact this
theorem mn64 (z : Int32) : (if (64 : Int32) < z then 64 else z : Int32).toInt ≤ 64 := by
  by_cases c : (64 : Int32) < z
  · rw [if_pos c]; decide
  · rw [if_neg c]; have := i_nlt c; rw [show (64 : Int32).toInt = 64 from by decide] at this; exact this

def fJ0_isLatin1_aae02  : Int32 :=
  1
set_option maxHeartbeats 4000000 in
set_option maxRecDepth 100000 in
theorem c_J0_isLatin1_aae02 (l : Launch) (ak av : Nat)  : Met l yJ0_isLatin1_aae02 wsJ0_isLatin1_aae02 ({ frames := 0, cells := 0, slots := 0, locals := 0 } : Room) (cS ak av [.ref ak]) (vp_Si (fun r => r = (fJ0_isLatin1_aae02))) 0 0 (fun _ => False) := by
  refine Met.ofW (cc := cJ0_isLatin1_aae02) (maxL := 1) (ret := (some .boolean)) (by decide) rfl ?_
  intro p e s m args below meth c s₁ B hml hv
  obtain ⟨rfl, hSK⟩ := hv
  have hx := B.exec
  have hb := B.bytes
  have hr := B.returns
  have hts := atoms_spec (ws := wsJ0_isLatin1_aae02) B.pre
  have hown : s.vm.findClass RJ0 = some m.cls := findClass_of_methodNamed B.named
  have hlocks := B.notSynchronized
  obtain ⟨H, hH⟩ : ∃ H : Heap, H = s.heap := ⟨_, rfl⟩
  have hS : va_S (fun _ => False) s.heap H [] := by rw [hH]; exact va_S.rf
  rw [← hH]
  generalize hR : fJ0_isLatin1_aae02 = R
  unfold fJ0_isLatin1_aae02 at hR
  have hl := lv_entry ([.ref ak]) (n := 1) (Nat.le_of_ble_eq_true rfl)
  rw [lg_entry_eq]
  generalize (lg_sl ([.ref ak]) ++ List.replicate (1 - (lg_sl ([.ref ak])).length) Slot.unset).toArray = ls at hl ⊢
  have hl : lv_has ls 1 [(0, .ref ak)] := hl
  refine va_gets hx hb hSK.2.2.2.2.1 hS hown (hts (.fieldLink RJ0 38 "java/lang/String" "COMPACT_STRINGS" "Z") (by decide +kernel)) (fun _ h9 => h9) dJ0_isLatin1_aae02_0 ?_
  refine lv_if_eq (tgt := 17) hx hb dJ0_isLatin1_aae02_3 (by decide) (fun c_1 => ?_) (fun c_1 => ?_)
  · exact absurd c_1 (by decide)
  · refine lv_aload_n hx hb dJ0_isLatin1_aae02_6 rfl (lv_at hl 0 rfl) ?_
    refine vk_getf hx hb hSK.2.1 hS hown (hts (.fieldLink RJ0 15 "java/lang/String" "coder" "B") (by decide +kernel)) (fun _ h9 => h9) dJ0_isLatin1_aae02_7 ?_
    refine lv_if_ne (tgt := 17) hx hb dJ0_isLatin1_aae02_10 (by decide) (fun c_2 => ?_) (fun c_2 => ?_)
    · exact absurd (by decide) c_2
    · refine lv_iconst (v := 1) hx hb dJ0_isLatin1_aae02_13 (by decide) ?_
      refine lv_goto (tgt := 18) hx hb dJ0_isLatin1_aae02_14 (by decide) ?_
      subst hR
      exact W.zret (v := 1) hx hb hr rfl (fun t ht hW => ⟨1, rfl, rfl, ht.trans hH⟩) t_nil dJ0_isLatin1_aae02_18

def fJ0_coder_7d493  : Int32 :=
  0
set_option maxHeartbeats 4000000 in
set_option maxRecDepth 100000 in
theorem c_J0_coder_7d493 (l : Launch) (ak av : Nat)  : Met l yJ0_coder_7d493 wsJ0_coder_7d493 ({ frames := 0, cells := 0, slots := 0, locals := 0 } : Room) (cS ak av [.ref ak]) (vp_Si (fun r => r = (fJ0_coder_7d493))) 0 0 (fun _ => False) := by
  refine Met.ofW (cc := cJ0_coder_7d493) (maxL := 1) (ret := (some .byte)) (by decide) rfl ?_
  intro p e s m args below meth c s₁ B hml hv
  obtain ⟨rfl, hSK⟩ := hv
  have hx := B.exec
  have hb := B.bytes
  have hr := B.returns
  have hts := atoms_spec (ws := wsJ0_coder_7d493) B.pre
  have hown : s.vm.findClass RJ0 = some m.cls := findClass_of_methodNamed B.named
  have hlocks := B.notSynchronized
  obtain ⟨H, hH⟩ : ∃ H : Heap, H = s.heap := ⟨_, rfl⟩
  have hS : va_S (fun _ => False) s.heap H [] := by rw [hH]; exact va_S.rf
  rw [← hH]
  generalize hR : fJ0_coder_7d493 = R
  unfold fJ0_coder_7d493 at hR
  have hl := lv_entry ([.ref ak]) (n := 1) (Nat.le_of_ble_eq_true rfl)
  rw [lg_entry_eq]
  generalize (lg_sl ([.ref ak]) ++ List.replicate (1 - (lg_sl ([.ref ak])).length) Slot.unset).toArray = ls at hl ⊢
  have hl : lv_has ls 1 [(0, .ref ak)] := hl
  refine va_gets hx hb hSK.2.2.2.2.1 hS hown (hts (.fieldLink RJ0 38 "java/lang/String" "COMPACT_STRINGS" "Z") (by decide +kernel)) (fun _ h9 => h9) dJ0_coder_7d493_0 ?_
  refine lv_if_eq (tgt := 13) hx hb dJ0_coder_7d493_3 (by decide) (fun c_1 => ?_) (fun c_1 => ?_)
  · exact absurd c_1 (by decide)
  · refine lv_aload_n hx hb dJ0_coder_7d493_6 rfl (lv_at hl 0 rfl) ?_
    refine vk_getf hx hb hSK.2.1 hS hown (hts (.fieldLink RJ0 15 "java/lang/String" "coder" "B") (by decide +kernel)) (fun _ h9 => h9) dJ0_coder_7d493_7 ?_
    refine lv_goto (tgt := 14) hx hb dJ0_coder_7d493_10 (by decide) ?_
    subst hR
    exact W.zret (v := 0) hx hb hr rfl (fun t ht hW => ⟨0, rfl, rfl, ht.trans hH⟩) t_nil dJ0_coder_7d493_14

def fJ0_length_8abf5  : Int32 :=
  (64 >>> ((0 : Int32) &&& 31))
set_option maxHeartbeats 4000000 in
set_option maxRecDepth 100000 in
theorem c_J0_length_8abf5 (l : Launch) (ak av : Nat)  : Met l yJ0_length_8abf5 wsJ0_length_8abf5 ({ frames := 1, cells := 0, slots := 0, locals := 20 } : Room) (cS ak av [.ref ak]) (vp_Si (fun r => r = (fJ0_length_8abf5))) 0 0 (fun _ => False) := by
  refine Met.ofW (cc := cJ0_length_8abf5) (maxL := 1) (ret := (some .int)) (by decide) rfl ?_
  intro p e s m args below meth c s₁ B hml hv
  obtain ⟨rfl, hSK⟩ := hv
  have hx := B.exec
  have hb := B.bytes
  have hr := B.returns
  have hts := atoms_spec (ws := wsJ0_length_8abf5) B.pre
  have hown : s.vm.findClass RJ0 = some m.cls := findClass_of_methodNamed B.named
  have hlocks := B.notSynchronized
  obtain ⟨H, hH⟩ : ∃ H : Heap, H = s.heap := ⟨_, rfl⟩
  have hS : va_S (fun _ => False) s.heap H [] := by rw [hH]; exact va_S.rf
  rw [← hH]
  generalize hR : fJ0_length_8abf5 = R
  unfold fJ0_length_8abf5 at hR
  have hl := lv_entry ([.ref ak]) (n := 1) (Nat.le_of_ble_eq_true rfl)
  rw [lg_entry_eq]
  generalize (lg_sl ([.ref ak]) ++ List.replicate (1 - (lg_sl ([.ref ak])).length) Slot.unset).toArray = ls at hl ⊢
  have hl : lv_has ls 1 [(0, .ref ak)] := hl
  refine lv_aload_n hx hb dJ0_length_8abf5_0 rfl (lv_at hl 0 rfl) ?_
  refine vk_getf hx hb hSK.2.2.1 hS hown (hts (.fieldLink RJ0 9 "java/lang/String" "value" "[B") (by decide +kernel)) (fun _ h9 => h9) dJ0_length_8abf5_1 ?_
  refine va_tlen (v := 64) hx hb hSK.2.2.2.1 hS (by decide) dJ0_length_8abf5_4 ?_
  refine lv_aload_n hx hb dJ0_length_8abf5_5 rfl (lv_at hl 0 rfl) ?_
  refine vp_callSi (va_Run.run (va_runV (As := []) (rest := [.int 64]) ⟨hx, hb, hml, hown, hts⟩ (c_J0_coder_7d493 l ak av  ) (cwV 0 hts gJ0_length_8abf5_J0_coder_7d493 rfl rfl rfl (by decide +kernel) ⟨(Nat.le_of_ble_eq_true rfl), (Nat.le_of_ble_eq_true rfl)⟩) ⟨cS_blind, SK_recv hSK hS, (cS_pre hSK hS)⟩ rfl rfl hl.1 rfl (lv_room (Nat.le_of_ble_eq_true rfl)) dJ0_length_8abf5_6 ⟨Nat.le_of_ble_eq_true rfl, Nat.le_of_ble_eq_true rfl⟩)) (fun r_1 hr_1 => ?_)
  have hr_1 : r_1 = 0 := hr_1
  subst hr_1
  refine lv_ishr hx hb dJ0_length_8abf5_9 ?_
  subst hR
  exact W.iret (v := (64 >>> ((0 : Int32) &&& 31))) hx hb hr (fun t ht hW => ⟨(64 >>> ((0 : Int32) &&& 31)), rfl, rfl, ht.trans hH⟩) t_nil dJ0_length_8abf5_10

def fJ1_canEncode_9a6ad (x : Int32) : Int32 :=
  if x < 0 then
    0
  else
    if 255 < x then
      0
    else
      1
set_option maxHeartbeats 4000000 in
set_option maxRecDepth 100000 in
theorem c_J1_canEncode_9a6ad (l : Launch) (ak av : Nat) (x : Int32) : Met l yJ1_canEncode_9a6ad wsJ1_canEncode_9a6ad ({ frames := 0, cells := 0, slots := 0, locals := 0 } : Room) (cS ak av [.int x]) (vp_Si (fun r => r = (fJ1_canEncode_9a6ad x))) 0 0 (fun _ => False) := by
  refine Met.ofW (cc := cJ1_canEncode_9a6ad) (maxL := 1) (ret := (some .boolean)) (by decide) rfl ?_
  intro p e s m args below meth c s₁ B hml hv
  obtain ⟨rfl, hSK⟩ := hv
  have hx := B.exec
  have hb := B.bytes
  have hr := B.returns
  have hts := atoms_spec (ws := wsJ1_canEncode_9a6ad) B.pre
  have hown : s.vm.findClass RJ1 = some m.cls := findClass_of_methodNamed B.named
  have hlocks := B.notSynchronized
  obtain ⟨H, hH⟩ : ∃ H : Heap, H = s.heap := ⟨_, rfl⟩
  have hS : va_S (fun _ => False) s.heap H [] := by rw [hH]; exact va_S.rf
  rw [← hH]
  generalize hR : fJ1_canEncode_9a6ad x = R
  unfold fJ1_canEncode_9a6ad at hR
  have hl := lv_entry ([.int x]) (n := 1) (Nat.le_of_ble_eq_true rfl)
  rw [lg_entry_eq]
  generalize (lg_sl ([.int x]) ++ List.replicate (1 - (lg_sl ([.int x])).length) Slot.unset).toArray = ls at hl ⊢
  have hl : lv_has ls 1 [(0, .int x)] := hl
  refine lv_iload_n hx hb dJ1_canEncode_9a6ad_0 rfl (lv_at hl 0 rfl) ?_
  refine lv_if_lt (tgt := 15) hx hb dJ1_canEncode_9a6ad_1 (by decide) (fun c_1 => ?_) (fun c_1 => ?_)
  · rw [if_pos c_1] at hR
    refine lv_iconst (v := 0) hx hb dJ1_canEncode_9a6ad_15 (by decide) ?_
    subst hR
    exact W.zret (v := 0) hx hb hr rfl (fun t ht hW => ⟨0, rfl, rfl, ht.trans hH⟩) t_nil dJ1_canEncode_9a6ad_16
  · rw [if_neg c_1] at hR
    refine lv_iload_n hx hb dJ1_canEncode_9a6ad_4 rfl (lv_at hl 0 rfl) ?_
    refine lv_sipush (v := 255) hx hb dJ1_canEncode_9a6ad_5 (by decide) ?_
    refine lv_icmp_gt (tgt := 15) hx hb dJ1_canEncode_9a6ad_8 (by decide) (fun c_2 => ?_) (fun c_2 => ?_)
    · rw [if_pos c_2] at hR
      refine lv_iconst (v := 0) hx hb dJ1_canEncode_9a6ad_15 (by decide) ?_
      subst hR
      exact W.zret (v := 0) hx hb hr rfl (fun t ht hW => ⟨0, rfl, rfl, ht.trans hH⟩) t_nil dJ1_canEncode_9a6ad_16
    · rw [if_neg c_2] at hR
      refine lv_iconst (v := 1) hx hb dJ1_canEncode_9a6ad_11 (by decide) ?_
      refine lv_goto (tgt := 16) hx hb dJ1_canEncode_9a6ad_12 (by decide) ?_
      subst hR
      exact W.zret (v := 1) hx hb hr rfl (fun t ht hW => ⟨1, rfl, rfl, ht.trans hH⟩) t_nil dJ1_canEncode_9a6ad_16

def fJ1_indexOfChar_4cfef_7 (x y z : Int32) : Nat → Int32 → Int32
  | 0, _ => 0
  | n + 1, k =>
    if z ≤ k then
      (-1)
    else
      if (dig k.toNatClampNeg) = ((x : Int32).toInt8.toInt32) then
        k
      else
        fJ1_indexOfChar_4cfef_7 x y z n (k + 1)
def fJ1_indexOfChar_4cfef (x y z : Int32) : Int32 :=
  fJ1_indexOfChar_4cfef_7 x y z 66 y
set_option maxHeartbeats 4000000 in
set_option maxRecDepth 100000 in
theorem c_J1_indexOfChar_4cfef (l : Launch) (ak av : Nat) (x y z : Int32) (hy0 : 0 ≤ y.toInt) (hz1 : z.toInt ≤ 64) : Met l yJ1_indexOfChar_4cfef wsJ1_indexOfChar_4cfef ({ frames := 0, cells := 0, slots := 0, locals := 0 } : Room) (cS ak av [.ref av, .int x, .int y, .int z]) (vp_Si (fun r => r = (fJ1_indexOfChar_4cfef x y z))) 0 0 (fun _ => False) := by
  refine Met.ofW (cc := cJ1_indexOfChar_4cfef) (maxL := 6) (ret := (some .int)) (by decide) rfl ?_
  intro p e s m args below meth c s₁ B hml hv
  obtain ⟨rfl, hSK⟩ := hv
  have hx := B.exec
  have hb := B.bytes
  have hr := B.returns
  have hts := atoms_spec (ws := wsJ1_indexOfChar_4cfef) B.pre
  have hown : s.vm.findClass RJ1 = some m.cls := findClass_of_methodNamed B.named
  have hlocks := B.notSynchronized
  obtain ⟨H, hH⟩ : ∃ H : Heap, H = s.heap := ⟨_, rfl⟩
  have hS : va_S (fun _ => False) s.heap H [] := by rw [hH]; exact va_S.rf
  rw [← hH]
  generalize hR : fJ1_indexOfChar_4cfef x y z = R
  unfold fJ1_indexOfChar_4cfef at hR
  have hl := lv_entry ([.ref av, .int x, .int y, .int z]) (n := 6) (Nat.le_of_ble_eq_true rfl)
  rw [lg_entry_eq]
  generalize (lg_sl ([.ref av, .int x, .int y, .int z]) ++ List.replicate (6 - (lg_sl ([.ref av, .int x, .int y, .int z])).length) Slot.unset).toArray = ls at hl ⊢
  have hl : lv_has ls 6 [(0, .ref av), (1, .int x), (2, .int y), (3, .int z)] := hl
  have loop_7 : ∀ (n : Nat), ∀ (k : Int32) (ls : Array Slot), fJ1_indexOfChar_4cfef_7 x y z n k = R → (0 ≤ k.toInt) → (0 < ((n : Nat) : Int) ∧ (k.toInt < z.toInt → z.toInt - k.toInt < ((n : Nat) : Int))) → lv_has ls 6 [(0, .ref av), (1, .int x), (2, .int y), (3, .int z), (4, .int ((x : Int32).toInt8.toInt32)), (5, .int k)] → W p l e (headSpec wsJ1_indexOfChar_4cfef ({ frames := 0, cells := 0, slots := 0, locals := 0 } : Room)).room s m ([.ref av, .int x, .int y, .int z] : List Value).toArray below meth c H [] 0 0 (MQ below (vp_Si (fun r => r = R)) ([.ref av, .int x, .int y, .int z] : List Value).toArray s 0 0 (fun _ => False)) (F0 m 7 ls []) := by
    intro n
    induction n with
    | zero => intro k ls hR hk0 hmu; exfalso; omega
    | succ n ih =>
      intro k ls hR hk0 hmu hl
      rw [fJ1_indexOfChar_4cfef_7] at hR
      refine lv_iload hx hb dJ1_indexOfChar_4cfef_7 (lv_at hl 5 rfl) ?_
      refine lv_iload_n hx hb dJ1_indexOfChar_4cfef_9 rfl (lv_at hl 3 rfl) ?_
      refine lv_icmp_ge (tgt := 31) hx hb dJ1_indexOfChar_4cfef_10 (by decide) (fun c_1 => ?_) (fun c_1 => ?_)
      · rw [if_pos c_1] at hR
        refine lv_iconst (v := (-1)) hx hb dJ1_indexOfChar_4cfef_31 (by decide) ?_
        subst hR
        exact W.iret (v := (-1)) hx hb hr (fun t ht hW => ⟨(-1), rfl, rfl, ht.trans hH⟩) t_nil dJ1_indexOfChar_4cfef_32
      · rw [if_neg c_1] at hR
        refine lv_aload_n hx hb dJ1_indexOfChar_4cfef_13 rfl (lv_at hl 0 rfl) ?_
        refine lv_iload hx hb dJ1_indexOfChar_4cfef_14 (lv_at hl 5 rfl) ?_
        have b_2 : vp_in k 64 := by
          clear hmu
          have q_3 := i_nle c_1
          refine vin ?_ ?_
          all_goals (try generalize Int32.toInt k = z0 at *; try generalize Int32.toInt y = z1 at *; try generalize Int32.toInt z = z2 at *; omega)
        refine va_tb (v := .int (dig k.toNatClampNeg)) hx hb hSK.2.2.2.1 hS b_2 rfl dJ1_indexOfChar_4cfef_16 ?_
        refine lv_iload hx hb dJ1_indexOfChar_4cfef_17 (lv_at hl 4 rfl) ?_
        refine lv_icmp_ne (tgt := 25) hx hb dJ1_indexOfChar_4cfef_19 (by decide) (fun c_6 => ?_) (fun c_6 => ?_)
        · rw [if_neg c_6] at hR
          refine lv_iinc (v := (k + 1)) (lv' := [(5, .int (k + 1)), (0, .ref av), (1, .int x), (2, .int y), (3, .int z), (4, .int ((x : Int32).toInt8.toInt32))]) hx hb dJ1_indexOfChar_4cfef_25 hl (k := 5) rfl rfl (by decide) rfl (fun ls hl => ?_)
          refine lv_goto (tgt := 7) hx hb dJ1_indexOfChar_4cfef_28 (by decide) ?_
          have v_9 : 0 ≤ ((k + 1)).toInt := by
            clear hmu
            have q_10 := i_nle c_1
            have q_11 := i_ne c_6
            have k_12 : (1 : Int32).toInt = 1 := by decide
            have t_13 := ti_add (a := k) (b := 1) (by omega) (by omega)
            try generalize Int32.toInt ((x : Int32).toInt8.toInt32) = z0 at *
            try generalize Int32.toInt (dig k.toNatClampNeg) = z1 at *
            try generalize Int32.toInt (k + 1) = z2 at *
            try generalize Int32.toInt (1 : Int32) = z3 at *
            try generalize Int32.toInt k = z4 at *
            try generalize Int32.toInt y = z5 at *
            try generalize Int32.toInt z = z6 at *
            omega
          have v_14 : 0 < ((n : Nat) : Int) ∧ (((k + 1)).toInt < z.toInt → z.toInt - ((k + 1)).toInt < ((n : Nat) : Int)) := by
            have q_15 := i_nle c_1
            have q_16 := i_ne c_6
            have k_17 : (1 : Int32).toInt = 1 := by decide
            have t_18 := ti_add (a := k) (b := 1) (by omega) (by omega)
            try generalize Int32.toInt ((x : Int32).toInt8.toInt32) = z0 at *
            try generalize Int32.toInt (dig k.toNatClampNeg) = z1 at *
            try generalize Int32.toInt (k + 1) = z2 at *
            try generalize Int32.toInt (1 : Int32) = z3 at *
            try generalize Int32.toInt k = z4 at *
            try generalize Int32.toInt y = z5 at *
            try generalize Int32.toInt z = z6 at *
            omega
          exact ih ((k + 1))  ls hR v_9 v_14 (lv_sub hl [1, 2, 3, 4, 5, 0] rfl)
        · rw [if_pos c_6] at hR
          refine lv_iload hx hb dJ1_indexOfChar_4cfef_22 (lv_at hl 5 rfl) ?_
          subst hR
          exact W.iret (v := k) hx hb hr (fun t ht hW => ⟨k, rfl, rfl, ht.trans hH⟩) t_nil dJ1_indexOfChar_4cfef_24
  refine lv_iload_n hx hb dJ1_indexOfChar_4cfef_0 rfl (lv_at hl 1 rfl) ?_
  refine lv_i2b hx hb dJ1_indexOfChar_4cfef_1 rfl ?_
  refine lv_istore (lv' := [(4, .int ((x : Int32).toInt8.toInt32)), (0, .ref av), (1, .int x), (2, .int y), (3, .int z)]) hx hb dJ1_indexOfChar_4cfef_2 hl (by decide) rfl (fun ls hl => ?_)
  refine lv_iload_n hx hb dJ1_indexOfChar_4cfef_4 rfl (lv_at hl 3 rfl) ?_
  refine lv_istore (lv' := [(5, .int y), (4, .int ((x : Int32).toInt8.toInt32)), (0, .ref av), (1, .int x), (2, .int y), (3, .int z)]) hx hb dJ1_indexOfChar_4cfef_5 hl (by decide) rfl (fun ls hl => ?_)
  have v_19 : 0 ≤ y.toInt := by
    try generalize Int32.toInt y = z0 at *
    try generalize Int32.toInt z = z1 at *
    omega
  have v_20 : 0 < ((66 : Nat) : Int) ∧ (y.toInt < z.toInt → z.toInt - y.toInt < ((66 : Nat) : Int)) := by
    try generalize Int32.toInt y = z0 at *
    try generalize Int32.toInt z = z1 at *
    omega
  exact loop_7 66 (y)  ls hR v_19 v_20 (lv_sub hl [2, 3, 4, 5, 1, 0] rfl)

def fJ3_checkIndex_8e157 (x y : Int32) : Int32 :=
  if x < 0 then
    0
  else
    if x < y then
      x
    else
      0
set_option maxHeartbeats 4000000 in
set_option maxRecDepth 100000 in
theorem c_J3_checkIndex_8e157 (l : Launch) (ak av : Nat) (tz : Nat) (x y : Int32) (hx0 : 0 ≤ x.toInt) (hx1 : x.toInt < y.toInt) : Met l yJ3_checkIndex_8e157 wsJ3_checkIndex_8e157 ({ frames := 0, cells := 0, slots := 0, locals := 0 } : Room) (cS ak av [.int x, .int y, .ref tz]) (vp_Si (fun r => r = (fJ3_checkIndex_8e157 x y))) 0 0 (fun _ => False) := by
  refine Met.ofW (cc := cJ3_checkIndex_8e157) (maxL := 3) (ret := (some .int)) (by decide) rfl ?_
  intro p e s m args below meth c s₁ B hml hv
  obtain ⟨rfl, hSK⟩ := hv
  have hx := B.exec
  have hb := B.bytes
  have hr := B.returns
  have hts := atoms_spec (ws := wsJ3_checkIndex_8e157) B.pre
  have hown : s.vm.findClass RJ3 = some m.cls := findClass_of_methodNamed B.named
  have hlocks := B.notSynchronized
  obtain ⟨H, hH⟩ : ∃ H : Heap, H = s.heap := ⟨_, rfl⟩
  have hS : va_S (fun _ => False) s.heap H [] := by rw [hH]; exact va_S.rf
  rw [← hH]
  generalize hR : fJ3_checkIndex_8e157 x y = R
  unfold fJ3_checkIndex_8e157 at hR
  have hl := lv_entry ([.int x, .int y, .ref tz]) (n := 3) (Nat.le_of_ble_eq_true rfl)
  rw [lg_entry_eq]
  generalize (lg_sl ([.int x, .int y, .ref tz]) ++ List.replicate (3 - (lg_sl ([.int x, .int y, .ref tz])).length) Slot.unset).toArray = ls at hl ⊢
  have hl : lv_has ls 3 [(0, .int x), (1, .int y), (2, .ref tz)] := hl
  refine lv_iload_n hx hb dJ3_checkIndex_8e157_0 rfl (lv_at hl 0 rfl) ?_
  refine lv_if_lt (tgt := 9) hx hb dJ3_checkIndex_8e157_1 (by decide) (fun c_1 => ?_) (fun c_1 => ?_)
  · rw [if_pos c_1] at hR
    exfalso
    have k_2 : (0 : Int32).toInt = 0 := by decide
    have q_3 := i_lt c_1
    try generalize Int32.toInt (0 : Int32) = z0 at *
    try generalize Int32.toInt x = z1 at *
    try generalize Int32.toInt y = z2 at *
    omega
  · rw [if_neg c_1] at hR
    refine lv_iload_n hx hb dJ3_checkIndex_8e157_4 rfl (lv_at hl 0 rfl) ?_
    refine lv_iload_n hx hb dJ3_checkIndex_8e157_5 rfl (lv_at hl 1 rfl) ?_
    refine lv_icmp_lt (tgt := 16) hx hb dJ3_checkIndex_8e157_6 (by decide) (fun c_4 => ?_) (fun c_4 => ?_)
    · rw [if_pos c_4] at hR
      refine lv_iload_n hx hb dJ3_checkIndex_8e157_16 rfl (lv_at hl 0 rfl) ?_
      subst hR
      exact W.iret (v := x) hx hb hr (fun t ht hW => ⟨x, rfl, rfl, ht.trans hH⟩) t_nil dJ3_checkIndex_8e157_17
    · rw [if_neg c_4] at hR
      exfalso
      have k_5 : (0 : Int32).toInt = 0 := by decide
      have q_6 := i_nlt c_1
      have q_7 := i_nlt c_4
      try generalize Int32.toInt (0 : Int32) = z0 at *
      try generalize Int32.toInt x = z1 at *
      try generalize Int32.toInt y = z2 at *
      omega

def fJ3_checkIndex_8e157_null (x y : Int32) : Int32 :=
  if x < 0 then
    0
  else
    if x < y then
      x
    else
      0
set_option maxHeartbeats 4000000 in
set_option maxRecDepth 100000 in
theorem c_J3_checkIndex_8e157_null (l : Launch) (ak av : Nat) (x y : Int32) (hx0 : 0 ≤ x.toInt) (hx1 : x.toInt < y.toInt) : Met l yJ3_checkIndex_8e157 wsJ3_checkIndex_8e157 ({ frames := 0, cells := 0, slots := 0, locals := 0 } : Room) (cS ak av [.int x, .int y, .null]) (vp_Si (fun r => r = (fJ3_checkIndex_8e157_null x y))) 0 0 (fun _ => False) := by
  refine Met.ofW (cc := cJ3_checkIndex_8e157) (maxL := 3) (ret := (some .int)) (by decide) rfl ?_
  intro p e s m args below meth c s₁ B hml hv
  obtain ⟨rfl, hSK⟩ := hv
  have hx := B.exec
  have hb := B.bytes
  have hr := B.returns
  have hts := atoms_spec (ws := wsJ3_checkIndex_8e157) B.pre
  have hown : s.vm.findClass RJ3 = some m.cls := findClass_of_methodNamed B.named
  have hlocks := B.notSynchronized
  obtain ⟨H, hH⟩ : ∃ H : Heap, H = s.heap := ⟨_, rfl⟩
  have hS : va_S (fun _ => False) s.heap H [] := by rw [hH]; exact va_S.rf
  rw [← hH]
  generalize hR : fJ3_checkIndex_8e157_null x y = R
  unfold fJ3_checkIndex_8e157_null at hR
  have hl := lv_entry ([.int x, .int y, .null]) (n := 3) (Nat.le_of_ble_eq_true rfl)
  rw [lg_entry_eq]
  generalize (lg_sl ([.int x, .int y, .null]) ++ List.replicate (3 - (lg_sl ([.int x, .int y, .null])).length) Slot.unset).toArray = ls at hl ⊢
  have hl : lv_has ls 3 [(0, .int x), (1, .int y), (2, .null)] := hl
  refine lv_iload_n hx hb dJ3_checkIndex_8e157_0 rfl (lv_at hl 0 rfl) ?_
  refine lv_if_lt (tgt := 9) hx hb dJ3_checkIndex_8e157_1 (by decide) (fun c_1 => ?_) (fun c_1 => ?_)
  · rw [if_pos c_1] at hR
    exfalso
    have k_2 : (0 : Int32).toInt = 0 := by decide
    have q_3 := i_lt c_1
    try generalize Int32.toInt (0 : Int32) = z0 at *
    try generalize Int32.toInt x = z1 at *
    try generalize Int32.toInt y = z2 at *
    omega
  · rw [if_neg c_1] at hR
    refine lv_iload_n hx hb dJ3_checkIndex_8e157_4 rfl (lv_at hl 0 rfl) ?_
    refine lv_iload_n hx hb dJ3_checkIndex_8e157_5 rfl (lv_at hl 1 rfl) ?_
    refine lv_icmp_lt (tgt := 16) hx hb dJ3_checkIndex_8e157_6 (by decide) (fun c_4 => ?_) (fun c_4 => ?_)
    · rw [if_pos c_4] at hR
      refine lv_iload_n hx hb dJ3_checkIndex_8e157_16 rfl (lv_at hl 0 rfl) ?_
      subst hR
      exact W.iret (v := x) hx hb hr (fun t ht hW => ⟨x, rfl, rfl, ht.trans hH⟩) t_nil dJ3_checkIndex_8e157_17
    · rw [if_neg c_4] at hR
      exfalso
      have k_5 : (0 : Int32).toInt = 0 := by decide
      have q_6 := i_nlt c_1
      have q_7 := i_nlt c_4
      try generalize Int32.toInt (0 : Int32) = z0 at *
      try generalize Int32.toInt x = z1 at *
      try generalize Int32.toInt y = z2 at *
      omega

set_option maxHeartbeats 4000000 in
set_option maxRecDepth 100000 in
theorem c_J0_checkIndex_df160 (l : Launch) (ak av : Nat) (x y : Int32) (hx0 : 0 ≤ x.toInt) (hx1 : x.toInt < y.toInt) : Met l yJ0_checkIndex_df160 wsJ0_checkIndex_df160 ({ frames := 1, cells := 0, slots := 0, locals := 22 } : Room) (cS ak av [.int x, .int y]) (va_Sv (fun _ => True)) 0 0 (fun _ => False) := by
  refine Met.ofW (cc := cJ0_checkIndex_df160) (maxL := 2) (ret := none) (by decide) rfl ?_
  intro p e s m args below meth c s₁ B hml hv
  obtain ⟨rfl, hSK⟩ := hv
  have hx := B.exec
  have hb := B.bytes
  have hr := B.returns
  have hts := atoms_spec (ws := wsJ0_checkIndex_df160) B.pre
  have hown : s.vm.findClass RJ0 = some m.cls := findClass_of_methodNamed B.named
  have hlocks := B.notSynchronized
  obtain ⟨H, hH⟩ : ∃ H : Heap, H = s.heap := ⟨_, rfl⟩
  have hS : va_S (fun _ => False) s.heap H [] := by rw [hH]; exact va_S.rf
  rw [← hH]
  have hl := lv_entry ([.int x, .int y]) (n := 2) (Nat.le_of_ble_eq_true rfl)
  rw [lg_entry_eq]
  generalize (lg_sl ([.int x, .int y]) ++ List.replicate (2 - (lg_sl ([.int x, .int y])).length) Slot.unset).toArray = ls at hl ⊢
  have hl : lv_has ls 2 [(0, .int x), (1, .int y)] := hl
  refine lv_iload_n hx hb dJ0_checkIndex_df160_0 rfl (lv_at hl 0 rfl) ?_
  refine lv_iload_n hx hb dJ0_checkIndex_df160_1 rfl (lv_at hl 1 rfl) ?_
  rcases hSK.2.2.2.2.2 with hZ | ⟨tq, hZ⟩
  · refine va_gets hx hb hZ hS hown (hts (.fieldLink RJ0 1053 "jdk/internal/util/Preconditions" "SIOOBE_FORMATTER" "Ljava/util/function/BiFunction;") (by decide +kernel)) (fun _ h9 => h9) dJ0_checkIndex_df160_2 ?_
    have p_1 : 0 ≤ x.toInt := by
      try generalize Int32.toInt x = z0 at *
      try generalize Int32.toInt y = z1 at *
      omega
    have p_2 : x.toInt < y.toInt := by
      try generalize Int32.toInt x = z0 at *
      try generalize Int32.toInt y = z1 at *
      omega
    refine vp_callSi (va_Run.run (va_runS (As := [.int x, .int y, .null]) (rest := []) ⟨hx, hb, hml, hown, hts⟩ (c_J3_checkIndex_8e157_null l ak av x y p_1 p_2) (va_cwS 3 hts gJ0_checkIndex_df160_J3_checkIndex_8e157 rfl rfl rfl (by decide +kernel) ⟨(Nat.le_of_ble_eq_true rfl), (Nat.le_of_ble_eq_true rfl)⟩) ⟨cS_blind, (cS_pre hSK hS)⟩ rfl rfl hl.1 rfl (lv_room (Nat.le_of_ble_eq_true rfl)) dJ0_checkIndex_df160_5 ⟨Nat.le_of_ble_eq_true rfl, Nat.le_of_ble_eq_true rfl⟩)) (fun r_3 hr_3 => ?_)
    refine lv_pop hx hb dJ0_checkIndex_df160_8 rfl ?_
    exact W.vret hx hb hr (fun t ht hW => ⟨rfl, trivial, ht.trans hH⟩) t_nil dJ0_checkIndex_df160_9
  · refine va_gets hx hb hZ hS hown (hts (.fieldLink RJ0 1053 "jdk/internal/util/Preconditions" "SIOOBE_FORMATTER" "Ljava/util/function/BiFunction;") (by decide +kernel)) (fun _ h9 => h9) dJ0_checkIndex_df160_2 ?_
    have p_4 : 0 ≤ x.toInt := by
      try generalize Int32.toInt x = z0 at *
      try generalize Int32.toInt y = z1 at *
      omega
    have p_5 : x.toInt < y.toInt := by
      try generalize Int32.toInt x = z0 at *
      try generalize Int32.toInt y = z1 at *
      omega
    refine vp_callSi (va_Run.run (va_runS (As := [.int x, .int y, .ref tq]) (rest := []) ⟨hx, hb, hml, hown, hts⟩ (c_J3_checkIndex_8e157 l ak av tq x y p_4 p_5) (va_cwS 3 hts gJ0_checkIndex_df160_J3_checkIndex_8e157 rfl rfl rfl (by decide +kernel) ⟨(Nat.le_of_ble_eq_true rfl), (Nat.le_of_ble_eq_true rfl)⟩) ⟨cS_blind, (cS_pre hSK hS)⟩ rfl rfl hl.1 rfl (lv_room (Nat.le_of_ble_eq_true rfl)) dJ0_checkIndex_df160_5 ⟨Nat.le_of_ble_eq_true rfl, Nat.le_of_ble_eq_true rfl⟩)) (fun r_6 hr_6 => ?_)
    refine lv_pop hx hb dJ0_checkIndex_df160_8 rfl ?_
    exact W.vret hx hb hr (fun t ht hW => ⟨rfl, trivial, ht.trans hH⟩) t_nil dJ0_checkIndex_df160_9

def fJ1_charAt_3b067 (x : Int32) : Int32 :=
  (((((dig x.toNatClampNeg) &&& 255) : Int32).toUInt32 % 65536).toInt32)
set_option maxHeartbeats 4000000 in
set_option maxRecDepth 100000 in
theorem c_J1_charAt_3b067 (l : Launch) (ak av : Nat) (x : Int32) (hx0 : 0 ≤ x.toInt) (hx1 : x.toInt < 64) : Met l yJ1_charAt_3b067 wsJ1_charAt_3b067 ({ frames := 2, cells := 0, slots := 0, locals := 43 } : Room) (cS ak av [.ref av, .int x]) (vp_Si (fun r => r = (fJ1_charAt_3b067 x) ∧ (narrow .char (.int (fJ1_charAt_3b067 x)) = .int (fJ1_charAt_3b067 x)))) 0 0 (fun _ => False) := by
  refine Met.ofW (cc := cJ1_charAt_3b067) (maxL := 2) (ret := (some .char)) (by decide) rfl ?_
  intro p e s m args below meth c s₁ B hml hv
  obtain ⟨rfl, hSK⟩ := hv
  have hx := B.exec
  have hb := B.bytes
  have hr := B.returns
  have hts := atoms_spec (ws := wsJ1_charAt_3b067) B.pre
  have hown : s.vm.findClass RJ1 = some m.cls := findClass_of_methodNamed B.named
  have hlocks := B.notSynchronized
  obtain ⟨H, hH⟩ : ∃ H : Heap, H = s.heap := ⟨_, rfl⟩
  have hS : va_S (fun _ => False) s.heap H [] := by rw [hH]; exact va_S.rf
  rw [← hH]
  generalize hR : fJ1_charAt_3b067 x = R
  unfold fJ1_charAt_3b067 at hR
  have hl := lv_entry ([.ref av, .int x]) (n := 2) (Nat.le_of_ble_eq_true rfl)
  rw [lg_entry_eq]
  generalize (lg_sl ([.ref av, .int x]) ++ List.replicate (2 - (lg_sl ([.ref av, .int x])).length) Slot.unset).toArray = ls at hl ⊢
  have hl : lv_has ls 2 [(0, .ref av), (1, .int x)] := hl
  refine lv_iload_n hx hb dJ1_charAt_3b067_0 rfl (lv_at hl 1 rfl) ?_
  refine lv_aload_n hx hb dJ1_charAt_3b067_1 rfl (lv_at hl 0 rfl) ?_
  refine va_tlen (v := 64) hx hb hSK.2.2.2.1 hS (by decide) dJ1_charAt_3b067_2 ?_
  have p_1 : 0 ≤ x.toInt := by
    try generalize Int32.toInt x = z0 at *
    omega
  have p_2 : x.toInt < (64 : Int32).toInt := by
    have k_3 : (64 : Int32).toInt = 64 := by decide
    try generalize Int32.toInt (64 : Int32) = z0 at *
    try generalize Int32.toInt x = z1 at *
    omega
  refine va_csv (va_Run.run (va_runS (As := [.int x, .int 64]) (rest := []) ⟨hx, hb, hml, hown, hts⟩ (c_J0_checkIndex_df160 l ak av x 64 p_1 p_2) (va_cwS 2 hts gJ1_charAt_3b067_J0_checkIndex_df160 rfl rfl rfl (by decide +kernel) ⟨(Nat.le_of_ble_eq_true rfl), (Nat.le_of_ble_eq_true rfl)⟩) ⟨cS_blind, (cS_pre hSK hS)⟩ rfl rfl hl.1 rfl (lv_room (Nat.le_of_ble_eq_true rfl)) dJ1_charAt_3b067_3 ⟨Nat.le_of_ble_eq_true rfl, Nat.le_of_ble_eq_true rfl⟩)) (fun _ => ?_)
  refine lv_aload_n hx hb dJ1_charAt_3b067_6 rfl (lv_at hl 0 rfl) ?_
  refine lv_iload_n hx hb dJ1_charAt_3b067_7 rfl (lv_at hl 1 rfl) ?_
  have b_5 : vp_in x 64 := by
    refine vin ?_ ?_
    all_goals (try generalize Int32.toInt x = z0 at *; omega)
  refine va_tb (v := .int (dig x.toNatClampNeg)) hx hb hSK.2.2.2.1 hS b_5 rfl dJ1_charAt_3b067_8 ?_
  refine lv_sipush (v := 255) hx hb dJ1_charAt_3b067_9 (by decide) ?_
  refine lv_iand hx hb dJ1_charAt_3b067_12 ?_
  refine lv_i2c hx hb dJ1_charAt_3b067_13 rfl ?_
  have e_8 : narrow .char (.int ((((((dig x.toNatClampNeg) &&& 255) : Int32).toUInt32 % 65536).toInt32) : Int32)) = .int ((((((dig x.toNatClampNeg) &&& 255) : Int32).toUInt32 % 65536).toInt32) : Int32) := by
    exact pk_nc _
  subst hR
  exact W.zret (v := (((((dig x.toNatClampNeg) &&& 255) : Int32).toUInt32 % 65536).toInt32)) hx hb hr (pk_nc _) (fun t ht hW => ⟨(((((dig x.toNatClampNeg) &&& 255) : Int32).toUInt32 % 65536).toInt32), rfl, ⟨rfl, e_8⟩, ht.trans hH⟩) t_nil dJ1_charAt_3b067_14

def fJ0_charAt_5068e (x : Int32) : Int32 :=
  bnd (fJ1_charAt_3b067 x) fun r_11 =>
  r_11
set_option maxHeartbeats 4000000 in
set_option maxRecDepth 100000 in
theorem c_J0_charAt_5068e (l : Launch) (ak av : Nat) (x : Int32) (hx0 : 0 ≤ x.toInt) (hx1 : x.toInt < 64) : Met l yJ0_charAt_5068e wsJ0_charAt_5068e ({ frames := 3, cells := 0, slots := 0, locals := 64 } : Room) (cS ak av [.ref ak, .int x]) (vp_Si (fun r => r = (fJ0_charAt_5068e x))) 0 0 (fun _ => False) := by
  refine Met.ofW (cc := cJ0_charAt_5068e) (maxL := 2) (ret := (some .char)) (by decide) rfl ?_
  intro p e s m args below meth c s₁ B hml hv
  obtain ⟨rfl, hSK⟩ := hv
  have hx := B.exec
  have hb := B.bytes
  have hr := B.returns
  have hts := atoms_spec (ws := wsJ0_charAt_5068e) B.pre
  have hown : s.vm.findClass RJ0 = some m.cls := findClass_of_methodNamed B.named
  have hlocks := B.notSynchronized
  obtain ⟨H, hH⟩ : ∃ H : Heap, H = s.heap := ⟨_, rfl⟩
  have hS : va_S (fun _ => False) s.heap H [] := by rw [hH]; exact va_S.rf
  rw [← hH]
  generalize hR : fJ0_charAt_5068e x = R
  unfold fJ0_charAt_5068e at hR
  have hl := lv_entry ([.ref ak, .int x]) (n := 2) (Nat.le_of_ble_eq_true rfl)
  rw [lg_entry_eq]
  generalize (lg_sl ([.ref ak, .int x]) ++ List.replicate (2 - (lg_sl ([.ref ak, .int x])).length) Slot.unset).toArray = ls at hl ⊢
  have hl : lv_has ls 2 [(0, .ref ak), (1, .int x)] := hl
  refine lv_aload_n hx hb dJ0_charAt_5068e_0 rfl (lv_at hl 0 rfl) ?_
  refine vp_callSi (va_Run.run (va_runV (As := []) (rest := []) ⟨hx, hb, hml, hown, hts⟩ (c_J0_isLatin1_aae02 l ak av  ) (cwV 0 hts gJ0_charAt_5068e_J0_isLatin1_aae02 rfl rfl rfl (by decide +kernel) ⟨(Nat.le_of_ble_eq_true rfl), (Nat.le_of_ble_eq_true rfl)⟩) ⟨cS_blind, SK_recv hSK hS, (cS_pre hSK hS)⟩ rfl rfl hl.1 rfl (lv_room (Nat.le_of_ble_eq_true rfl)) dJ0_charAt_5068e_1 ⟨Nat.le_of_ble_eq_true rfl, Nat.le_of_ble_eq_true rfl⟩)) (fun r_1 hr_1 => ?_)
  have hr_1 : r_1 = 1 := hr_1
  subst hr_1
  refine lv_if_eq (tgt := 16) hx hb dJ0_charAt_5068e_4 (by decide) (fun c_2 => ?_) (fun c_2 => ?_)
  · exact absurd c_2 (by decide)
  · refine lv_aload_n hx hb dJ0_charAt_5068e_7 rfl (lv_at hl 0 rfl) ?_
    refine vk_getf hx hb hSK.2.2.1 hS hown (hts (.fieldLink RJ0 9 "java/lang/String" "value" "[B") (by decide +kernel)) (fun _ h9 => h9) dJ0_charAt_5068e_8 ?_
    refine lv_iload_n hx hb dJ0_charAt_5068e_11 rfl (lv_at hl 1 rfl) ?_
    have p_3 : 0 ≤ x.toInt := by
      have k_4 : (1 : Int32).toInt = 1 := by decide
      have k_5 : (0 : Int32).toInt = 0 := by decide
      have q_6 := i_ne c_2
      try generalize Int32.toInt (0 : Int32) = z0 at *
      try generalize Int32.toInt (1 : Int32) = z1 at *
      try generalize Int32.toInt x = z2 at *
      omega
    have p_7 : x.toInt < 64 := by
      have k_8 : (1 : Int32).toInt = 1 := by decide
      have k_9 : (0 : Int32).toInt = 0 := by decide
      have q_10 := i_ne c_2
      try generalize Int32.toInt (0 : Int32) = z0 at *
      try generalize Int32.toInt (1 : Int32) = z1 at *
      try generalize Int32.toInt x = z2 at *
      omega
    refine vp_callSi (va_Run.run (va_runS (As := [.ref av, .int x]) (rest := []) ⟨hx, hb, hml, hown, hts⟩ (c_J1_charAt_3b067 l ak av x p_3 p_7) (va_cwS 2 hts gJ0_charAt_5068e_J1_charAt_3b067 rfl rfl rfl (by decide +kernel) ⟨(Nat.le_of_ble_eq_true rfl), (Nat.le_of_ble_eq_true rfl)⟩) ⟨cS_blind, (cS_pre hSK hS)⟩ rfl rfl hl.1 rfl (lv_room (Nat.le_of_ble_eq_true rfl)) dJ0_charAt_5068e_12 ⟨Nat.le_of_ble_eq_true rfl, Nat.le_of_ble_eq_true rfl⟩)) (fun r_11 hr_11 => ?_)
    obtain ⟨hr_11, er_11_0⟩ := hr_11
    rw [← hr_11] at er_11_0
    rw [bnd_eq hr_11.symm] at hR
    subst hR
    exact W.zret (v := r_11) hx hb hr (by assumption) (fun t ht hW => ⟨r_11, rfl, rfl, ht.trans hH⟩) t_nil dJ0_charAt_5068e_15

def fJ1_indexOf_4cfef (x y z : Int32) : Int32 :=
  bnd (fJ1_canEncode_9a6ad x) fun r_1 =>
  if r_1 = 0 then
    (-1)
  else
    if (if y < 0 then 0 else y) < (if (64 : Int32) < z then 64 else z) then
      bnd (fJ1_indexOfChar_4cfef x (if y < 0 then 0 else y) (if (64 : Int32) < z then 64 else z)) fun r_12 =>
      r_12
    else
      (-1)
set_option maxHeartbeats 4000000 in
set_option maxRecDepth 100000 in
theorem c_J1_indexOf_4cfef (l : Launch) (ak av : Nat) (x y z : Int32) : Met l yJ1_indexOf_4cfef wsJ1_indexOf_4cfef ({ frames := 1, cells := 0, slots := 0, locals := 25 } : Room) (cS ak av [.ref av, .int x, .int y, .int z]) (vp_Si (fun r => r = (fJ1_indexOf_4cfef x y z))) 0 0 (fun _ => False) := by
  refine Met.ofW (cc := cJ1_indexOf_4cfef) (maxL := 4) (ret := (some .int)) (by decide) rfl ?_
  intro p e s m args below meth c s₁ B hml hv
  obtain ⟨rfl, hSK⟩ := hv
  have hx := B.exec
  have hb := B.bytes
  have hr := B.returns
  have hts := atoms_spec (ws := wsJ1_indexOf_4cfef) B.pre
  have hown : s.vm.findClass RJ1 = some m.cls := findClass_of_methodNamed B.named
  have hlocks := B.notSynchronized
  obtain ⟨H, hH⟩ : ∃ H : Heap, H = s.heap := ⟨_, rfl⟩
  have hS : va_S (fun _ => False) s.heap H [] := by rw [hH]; exact va_S.rf
  rw [← hH]
  generalize hR : fJ1_indexOf_4cfef x y z = R
  unfold fJ1_indexOf_4cfef at hR
  have hl := lv_entry ([.ref av, .int x, .int y, .int z]) (n := 4) (Nat.le_of_ble_eq_true rfl)
  rw [lg_entry_eq]
  generalize (lg_sl ([.ref av, .int x, .int y, .int z]) ++ List.replicate (4 - (lg_sl ([.ref av, .int x, .int y, .int z])).length) Slot.unset).toArray = ls at hl ⊢
  have hl : lv_has ls 4 [(0, .ref av), (1, .int x), (2, .int y), (3, .int z)] := hl
  refine lv_iload_n hx hb dJ1_indexOf_4cfef_0 rfl (lv_at hl 1 rfl) ?_
  refine vp_callSi (va_Run.run (va_runS (As := [.int x]) (rest := []) ⟨hx, hb, hml, hown, hts⟩ (c_J1_canEncode_9a6ad l ak av x ) (va_cwS 1 hts gJ1_indexOf_4cfef_J1_canEncode_9a6ad rfl rfl rfl (by decide +kernel) ⟨(Nat.le_of_ble_eq_true rfl), (Nat.le_of_ble_eq_true rfl)⟩) ⟨cS_blind, (cS_pre hSK hS)⟩ rfl rfl hl.1 rfl (lv_room (Nat.le_of_ble_eq_true rfl)) dJ1_indexOf_4cfef_1 ⟨Nat.le_of_ble_eq_true rfl, Nat.le_of_ble_eq_true rfl⟩)) (fun r_1 hr_1 => ?_)
  rw [bnd_eq hr_1.symm] at hR
  refine lv_if_ne (tgt := 9) hx hb dJ1_indexOf_4cfef_4 (by decide) (fun c_2 => ?_) (fun c_2 => ?_)
  · rw [if_neg c_2] at hR
    refine lv_iload_n hx hb dJ1_indexOf_4cfef_9 rfl (lv_at hl 2 rfl) ?_
    refine lv_iconst (v := 0) hx hb dJ1_indexOf_4cfef_10 (by decide) ?_
    refine va_mmax hx hb (by rw [hml]; exact hl.1.symm) hown (hts (.methodLink RJ1 92 Lib.Math.max.name) (by decide +kernel)) (hts (.static Lib.Math.max.name) (by decide +kernel)) (hts (.initialized "java/lang/Math") (by decide +kernel)) (hts (.code Lib.Math.max.name Lib.Math.max.code 2 (some .int)) (by decide +kernel)) (Nat.le_of_ble_eq_true rfl) (Nat.le_of_ble_eq_true rfl) (Nat.le_of_ble_eq_true rfl) (Nat.le_of_ble_eq_true rfl) dJ1_indexOf_4cfef_11 ?_
    refine lv_istore_n (lv' := [(2, .int (if y < 0 then 0 else y)), (0, .ref av), (1, .int x), (3, .int z)]) hx hb dJ1_indexOf_4cfef_14 rfl hl (by decide) rfl (fun ls hl => ?_)
    refine lv_iload_n hx hb dJ1_indexOf_4cfef_15 rfl (lv_at hl 3 rfl) ?_
    refine lv_aload_n hx hb dJ1_indexOf_4cfef_16 rfl (lv_at hl 1 rfl) ?_
    refine va_tlen (v := 64) hx hb hSK.2.2.2.1 hS (by decide) dJ1_indexOf_4cfef_17 ?_
    refine va_mmin hx hb (by rw [hml]; exact hl.1.symm) hown (hts (.methodLink RJ1 38 Lib.Math.min.name) (by decide +kernel)) (hts (.static Lib.Math.min.name) (by decide +kernel)) (hts (.initialized "java/lang/Math") (by decide +kernel)) (hts (.code Lib.Math.min.name Lib.Math.min.code 2 (some .int)) (by decide +kernel)) (Nat.le_of_ble_eq_true rfl) (Nat.le_of_ble_eq_true rfl) (Nat.le_of_ble_eq_true rfl) (Nat.le_of_ble_eq_true rfl) dJ1_indexOf_4cfef_18 ?_
    refine lv_istore_n (lv' := [(3, .int (if (64 : Int32) < z then 64 else z)), (2, .int (if y < 0 then 0 else y)), (0, .ref av), (1, .int x)]) hx hb dJ1_indexOf_4cfef_21 rfl hl (by decide) rfl (fun ls hl => ?_)
    refine lv_iload_n hx hb dJ1_indexOf_4cfef_22 rfl (lv_at hl 1 rfl) ?_
    refine lv_iload_n hx hb dJ1_indexOf_4cfef_23 rfl (lv_at hl 0 rfl) ?_
    refine lv_icmp_lt (tgt := 29) hx hb dJ1_indexOf_4cfef_24 (by decide) (fun c_3 => ?_) (fun c_3 => ?_)
    · rw [if_pos c_3] at hR
      refine lv_aload_n hx hb dJ1_indexOf_4cfef_29 rfl (lv_at hl 2 rfl) ?_
      refine lv_iload_n hx hb dJ1_indexOf_4cfef_30 rfl (lv_at hl 3 rfl) ?_
      refine lv_iload_n hx hb dJ1_indexOf_4cfef_31 rfl (lv_at hl 1 rfl) ?_
      refine lv_iload_n hx hb dJ1_indexOf_4cfef_32 rfl (lv_at hl 0 rfl) ?_
      have p_4 : 0 ≤ ((if y < 0 then 0 else y)).toInt := by
        have k_5 : (0 : Int32).toInt = 0 := by decide
        have q_6 := i_ne c_2
        have hq1 := mx0 y
        have hq2 := mn64 z
        have q_7 := i_lt c_3
        try generalize Int32.toInt (if (64 : Int32) < z then 64 else z) = z0 at *
        try generalize Int32.toInt (if y < 0 then 0 else y) = z1 at *
        try generalize Int32.toInt r_1 = z2 at *
        try generalize Int32.toInt (0 : Int32) = z3 at *
        omega
      have p_8 : ((if (64 : Int32) < z then 64 else z)).toInt ≤ 64 := by
        have k_9 : (0 : Int32).toInt = 0 := by decide
        have q_10 := i_ne c_2
        have hq1 := mx0 y
        have hq2 := mn64 z
        have q_11 := i_lt c_3
        try generalize Int32.toInt (if (64 : Int32) < z then 64 else z) = z0 at *
        try generalize Int32.toInt (if y < 0 then 0 else y) = z1 at *
        try generalize Int32.toInt r_1 = z2 at *
        try generalize Int32.toInt (0 : Int32) = z3 at *
        omega
      refine vp_callSi (va_Run.run (va_runS (As := [.ref av, .int x, .int (if y < 0 then 0 else y), .int (if (64 : Int32) < z then 64 else z)]) (rest := []) ⟨hx, hb, hml, hown, hts⟩ (c_J1_indexOfChar_4cfef l ak av x (if y < 0 then 0 else y) (if (64 : Int32) < z then 64 else z) p_4 p_8) (va_cwS 4 hts gJ1_indexOf_4cfef_J1_indexOfChar_4cfef rfl rfl rfl (by decide +kernel) ⟨(Nat.le_of_ble_eq_true rfl), (Nat.le_of_ble_eq_true rfl)⟩) ⟨cS_blind, (cS_pre hSK hS)⟩ rfl rfl hl.1 rfl (lv_room (Nat.le_of_ble_eq_true rfl)) dJ1_indexOf_4cfef_33 ⟨Nat.le_of_ble_eq_true rfl, Nat.le_of_ble_eq_true rfl⟩)) (fun r_12 hr_12 => ?_)
      rw [bnd_eq hr_12.symm] at hR
      subst hR
      exact W.iret (v := r_12) hx hb hr (fun t ht hW => ⟨r_12, rfl, rfl, ht.trans hH⟩) t_nil dJ1_indexOf_4cfef_36
    · rw [if_neg c_3] at hR
      refine lv_iconst (v := (-1)) hx hb dJ1_indexOf_4cfef_27 (by decide) ?_
      subst hR
      exact W.iret (v := (-1)) hx hb hr (fun t ht hW => ⟨(-1), rfl, rfl, ht.trans hH⟩) t_nil dJ1_indexOf_4cfef_28
  · rw [if_pos c_2] at hR
    refine lv_iconst (v := (-1)) hx hb dJ1_indexOf_4cfef_7 (by decide) ?_
    subst hR
    exact W.iret (v := (-1)) hx hb hr (fun t ht hW => ⟨(-1), rfl, rfl, ht.trans hH⟩) t_nil dJ1_indexOf_4cfef_8

def fJ0_indexOf_7cf53 (x y : Int32) : Int32 :=
  bnd (fJ0_length_8abf5) fun r_3 =>
  bnd (fJ1_indexOf_4cfef x y r_3) fun r_4 =>
  r_4
set_option maxHeartbeats 4000000 in
set_option maxRecDepth 100000 in
theorem c_J0_indexOf_7cf53 (l : Launch) (ak av : Nat) (x y : Int32) : Met l yJ0_indexOf_7cf53 wsJ0_indexOf_7cf53 ({ frames := 2, cells := 0, slots := 0, locals := 48 } : Room) (cS ak av [.ref ak, .int x, .int y]) (vp_Si (fun r => r = (fJ0_indexOf_7cf53 x y))) 0 0 (fun _ => False) := by
  refine Met.ofW (cc := cJ0_indexOf_7cf53) (maxL := 3) (ret := (some .int)) (by decide) rfl ?_
  intro p e s m args below meth c s₁ B hml hv
  obtain ⟨rfl, hSK⟩ := hv
  have hx := B.exec
  have hb := B.bytes
  have hr := B.returns
  have hts := atoms_spec (ws := wsJ0_indexOf_7cf53) B.pre
  have hown : s.vm.findClass RJ0 = some m.cls := findClass_of_methodNamed B.named
  have hlocks := B.notSynchronized
  obtain ⟨H, hH⟩ : ∃ H : Heap, H = s.heap := ⟨_, rfl⟩
  have hS : va_S (fun _ => False) s.heap H [] := by rw [hH]; exact va_S.rf
  rw [← hH]
  generalize hR : fJ0_indexOf_7cf53 x y = R
  unfold fJ0_indexOf_7cf53 at hR
  have hl := lv_entry ([.ref ak, .int x, .int y]) (n := 3) (Nat.le_of_ble_eq_true rfl)
  rw [lg_entry_eq]
  generalize (lg_sl ([.ref ak, .int x, .int y]) ++ List.replicate (3 - (lg_sl ([.ref ak, .int x, .int y])).length) Slot.unset).toArray = ls at hl ⊢
  have hl : lv_has ls 3 [(0, .ref ak), (1, .int x), (2, .int y)] := hl
  refine lv_aload_n hx hb dJ0_indexOf_7cf53_0 rfl (lv_at hl 0 rfl) ?_
  refine vp_callSi (va_Run.run (va_runV (As := []) (rest := []) ⟨hx, hb, hml, hown, hts⟩ (c_J0_isLatin1_aae02 l ak av  ) (cwV 0 hts gJ0_indexOf_7cf53_J0_isLatin1_aae02 rfl rfl rfl (by decide +kernel) ⟨(Nat.le_of_ble_eq_true rfl), (Nat.le_of_ble_eq_true rfl)⟩) ⟨cS_blind, SK_recv hSK hS, (cS_pre hSK hS)⟩ rfl rfl hl.1 rfl (lv_room (Nat.le_of_ble_eq_true rfl)) dJ0_indexOf_7cf53_1 ⟨Nat.le_of_ble_eq_true rfl, Nat.le_of_ble_eq_true rfl⟩)) (fun r_1 hr_1 => ?_)
  have hr_1 : r_1 = 1 := hr_1
  subst hr_1
  refine lv_if_eq (tgt := 23) hx hb dJ0_indexOf_7cf53_4 (by decide) (fun c_2 => ?_) (fun c_2 => ?_)
  · exact absurd c_2 (by decide)
  · refine lv_aload_n hx hb dJ0_indexOf_7cf53_7 rfl (lv_at hl 0 rfl) ?_
    refine vk_getf hx hb hSK.2.2.1 hS hown (hts (.fieldLink RJ0 9 "java/lang/String" "value" "[B") (by decide +kernel)) (fun _ h9 => h9) dJ0_indexOf_7cf53_8 ?_
    refine lv_iload_n hx hb dJ0_indexOf_7cf53_11 rfl (lv_at hl 1 rfl) ?_
    refine lv_iload_n hx hb dJ0_indexOf_7cf53_12 rfl (lv_at hl 2 rfl) ?_
    refine lv_aload_n hx hb dJ0_indexOf_7cf53_13 rfl (lv_at hl 0 rfl) ?_
    refine vp_callSi (va_Run.run (va_runV (As := []) (rest := [.int y, .int x, .ref av]) ⟨hx, hb, hml, hown, hts⟩ (c_J0_length_8abf5 l ak av  ) (cwV 0 hts gJ0_indexOf_7cf53_J0_length_8abf5 rfl rfl rfl (by decide +kernel) ⟨(Nat.le_of_ble_eq_true rfl), (Nat.le_of_ble_eq_true rfl)⟩) ⟨cS_blind, SK_recv hSK hS, (cS_pre hSK hS)⟩ rfl rfl hl.1 rfl (lv_room (Nat.le_of_ble_eq_true rfl)) dJ0_indexOf_7cf53_14 ⟨Nat.le_of_ble_eq_true rfl, Nat.le_of_ble_eq_true rfl⟩)) (fun r_3 hr_3 => ?_)
    rw [bnd_eq hr_3.symm] at hR
    refine vp_callSi (va_Run.run (va_runS (As := [.ref av, .int x, .int y, .int r_3]) (rest := []) ⟨hx, hb, hml, hown, hts⟩ (c_J1_indexOf_4cfef l ak av x y r_3 ) (va_cwS 4 hts gJ0_indexOf_7cf53_J1_indexOf_4cfef rfl rfl rfl (by decide +kernel) ⟨(Nat.le_of_ble_eq_true rfl), (Nat.le_of_ble_eq_true rfl)⟩) ⟨cS_blind, (cS_pre hSK hS)⟩ rfl rfl hl.1 rfl (lv_room (Nat.le_of_ble_eq_true rfl)) dJ0_indexOf_7cf53_17 ⟨Nat.le_of_ble_eq_true rfl, Nat.le_of_ble_eq_true rfl⟩)) (fun r_4 hr_4 => ?_)
    rw [bnd_eq hr_4.symm] at hR
    refine lv_goto (tgt := 36) hx hb dJ0_indexOf_7cf53_20 (by decide) ?_
    subst hR
    exact W.iret (v := r_4) hx hb hr (fun t ht hW => ⟨r_4, rfl, rfl, ht.trans hH⟩) t_nil dJ0_indexOf_7cf53_36

def fJ0_indexOf_0f7a4 (x : Int32) : Int32 :=
  bnd (fJ0_indexOf_7cf53 x 0) fun r_1 =>
  r_1
set_option maxHeartbeats 4000000 in
set_option maxRecDepth 100000 in
theorem c_J0_indexOf_0f7a4 (l : Launch) (ak av : Nat) (x : Int32) : Met l yJ0_indexOf_0f7a4 wsJ0_indexOf_0f7a4 ({ frames := 3, cells := 0, slots := 0, locals := 70 } : Room) (cS ak av [.ref ak, .int x]) (vp_Si (fun r => r = (fJ0_indexOf_0f7a4 x))) 0 0 (fun _ => False) := by
  refine Met.ofW (cc := cJ0_indexOf_0f7a4) (maxL := 2) (ret := (some .int)) (by decide) rfl ?_
  intro p e s m args below meth c s₁ B hml hv
  obtain ⟨rfl, hSK⟩ := hv
  have hx := B.exec
  have hb := B.bytes
  have hr := B.returns
  have hts := atoms_spec (ws := wsJ0_indexOf_0f7a4) B.pre
  have hown : s.vm.findClass RJ0 = some m.cls := findClass_of_methodNamed B.named
  have hlocks := B.notSynchronized
  obtain ⟨H, hH⟩ : ∃ H : Heap, H = s.heap := ⟨_, rfl⟩
  have hS : va_S (fun _ => False) s.heap H [] := by rw [hH]; exact va_S.rf
  rw [← hH]
  generalize hR : fJ0_indexOf_0f7a4 x = R
  unfold fJ0_indexOf_0f7a4 at hR
  have hl := lv_entry ([.ref ak, .int x]) (n := 2) (Nat.le_of_ble_eq_true rfl)
  rw [lg_entry_eq]
  generalize (lg_sl ([.ref ak, .int x]) ++ List.replicate (2 - (lg_sl ([.ref ak, .int x])).length) Slot.unset).toArray = ls at hl ⊢
  have hl : lv_has ls 2 [(0, .ref ak), (1, .int x)] := hl
  refine lv_aload_n hx hb dJ0_indexOf_0f7a4_0 rfl (lv_at hl 0 rfl) ?_
  refine lv_iload_n hx hb dJ0_indexOf_0f7a4_1 rfl (lv_at hl 1 rfl) ?_
  refine lv_iconst (v := 0) hx hb dJ0_indexOf_0f7a4_2 (by decide) ?_
  refine vp_callSi (va_Run.run (va_runV (As := [.int x, .int 0]) (rest := []) ⟨hx, hb, hml, hown, hts⟩ (c_J0_indexOf_7cf53 l ak av x 0 ) (cwV 2 hts gJ0_indexOf_0f7a4_J0_indexOf_7cf53 rfl rfl rfl (by decide +kernel) ⟨(Nat.le_of_ble_eq_true rfl), (Nat.le_of_ble_eq_true rfl)⟩) ⟨cS_blind, SK_recv hSK hS, (cS_pre hSK hS)⟩ rfl rfl hl.1 rfl (lv_room (Nat.le_of_ble_eq_true rfl)) dJ0_indexOf_0f7a4_3 ⟨Nat.le_of_ble_eq_true rfl, Nat.le_of_ble_eq_true rfl⟩)) (fun r_1 hr_1 => ?_)
  rw [bnd_eq hr_1.symm] at hR
  subst hR
  exact W.iret (v := r_1) hx hb hr (fun t ht hW => ⟨r_1, rfl, rfl, ht.trans hH⟩) t_nil dJ0_indexOf_0f7a4_6
