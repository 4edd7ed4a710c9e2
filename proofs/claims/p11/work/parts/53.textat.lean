/-! exceptions: what a throw needs of the heap and of the tables; a body with handlers; a catch -/
abbrev NSE : String := "java/util/NoSuchElementException"
def XK (A : Nat → Prop) (U : State) (H : Heap) : Prop := vx_Zq Bundle.tN "UNASSIGNED_STACK" Bundle.steD A U H ∧ vx_Zq Bundle.tN "SUPPRESSED_SENTINEL" Bundle.listD A U H ∧ va_Nw (.castable NSE NSE) U ∧ va_Nw (Cond.declares (Bundle.init0 "java/lang/RuntimeException")) U ∧ va_Nw (Cond.declares (Bundle.init0 "java/lang/Exception")) U ∧ va_Nw (Cond.declares (Bundle.init0 Bundle.tN)) U
theorem XK.warm {A : Nat → Prop} {s U : State} {H : Heap} (hW : s.WarmedH U.vm) (h : XK A s H) : XK A U H := ⟨vx_Zq.moved hW.alike h.1, vx_Zq.moved hW.alike h.2.1, va_Nw.warmC hW h.2.2.1, va_Nw.warmD hW h.2.2.2.1, va_Nw.warmD hW h.2.2.2.2.1, va_Nw.warmD hW h.2.2.2.2.2⟩
theorem XK.kept {A : Nat → Prop} {U : State} {H H1 : Heap} (h : XK A U H) (hq : ∀ a : Nat, a < H.size → ¬ A a → H1[a]? = H[a]?) : XK A U H1 := ⟨h.1.kept hq, h.2.1.kept hq, h.2.2⟩
theorem XK.narrow {A B : Nat → Prop} {U : State} {H : Heap} (h : XK A U H) (hAB : ∀ q, B q → A q) : XK B U H := ⟨h.1.narrow hAB, h.2.1.narrow hAB, h.2.2⟩
abbrev cPx (dC : Nat → ClassId) (dI : Nat → Nat → Nat) (cB cC cI cJ : ClassId) (vs : List Value) (sz : Nat) (ws : va_W) : Array Value → State → Prop := va_Pc vs (fun U => U.heap.size = sz ∧ va_P (dC, dI) vwCl ws U.heap ∧ gk dC dI cB cC cI cJ U ∧ va_D (fun _ => True) ws ∧ XK (va_A ws sz) U U.heap)
theorem cPx_blind {dC : Nat → ClassId} {dI : Nat → Nat → Nat} {cB cC cI cJ : ClassId} {vs : List Value} {sz : Nat} {ws : va_W} : FrameBlind (cPx dC dI cB cC cI cJ vs sz ws) := fun a U g mk q => by
  obtain ⟨q0, q1, qP, qK, qD, qX⟩ := q
  exact ⟨q0, q1, qP, qK.same rfl, qD, vx_Zq.moved (u := U) (U := U.calling g mk a) (Vm.Alike.refl U.vm) qX.1, vx_Zq.moved (u := U) (U := U.calling g mk a) (Vm.Alike.refl U.vm) qX.2.1, va_Nw.same rfl rfl qX.2.2.1, va_Nw.same rfl rfl qX.2.2.2.1, va_Nw.same rfl rfl qX.2.2.2.2.1, va_Nw.same rfl rfl qX.2.2.2.2.2⟩
theorem cPx_pre {dC : Nat → ClassId} {dI : Nat → Nat → Nat} {cB cC cI cJ : ClassId} {vs : List Value} {ws : va_W} {A0 A : Nat → Prop} {s : State} {H : Heap} {locs : List Loc} (hP : va_P (dC, dI) vwCl ws H) (hG : gk dC dI cB cC cI cJ s) (hD : va_D A ws) (h : XK A0 s s.heap) (hS : va_S A0 s.heap H locs) (hF : ∀ q, va_A ws H.size q → A0 q) : ∀ U : State, U.heap = H → s.WarmedH U.vm → cPx dC dI cB cC cI cJ vs H.size ws vs.toArray U := fun U hU hW => ⟨rfl, by rw [hU], by rw [hU]; exact hP, hG.warm hW, hD.weaken (fun _ _ _ _ => trivial), by rw [hU]; exact XK.warm hW ((h.kept hS.2.1).narrow hF)⟩
/-- a method with handlers that lets nothing out -/
theorem g_ofWH {l : Launch} {y : MethodName} {ws ws' : List Cond} {rm : Room} {Pc : Array Value → State → Prop} {Qc : Array Value → State → Outcome → State → Prop} {mc ms : Nat} {free : Addr → Prop} {cc : ByteArray} {maxL : Nat} {ret : Option FieldType} {hh : List (Nat × Nat × Nat × Nat)} (hy : plainName y.cls = true) (hw : ws = Cond.codeWith y cc maxL ret hh :: ws')
    (body : ∀ p e s m args below meth c s₁, BodyLoose p l y (headSpec ws rm) cc maxL ret e s m args below meth c s₁ → c.maxLocals = maxL → c.exceptionTable.toList = tableOf hh → Pc args s → W p l e (headSpec ws rm).room s m args below meth c s.heap [] 0 0 (MQ below Qc args s mc ms free) (entryFrame m args maxL)) : Met l y ws rm Pc Qc mc ms free := by
  refine MetFree.of_bodyS (code := cc) (maxLocals := maxL) (ret := ret) hy ?_ ?_
  · intro args s m h hn
    obtain ⟨m9, meth, c, hn9, h1, h2, h3, h4, -, h5, h6, -⟩ := Cond.codeWith_spec (atoms_spec (ws := ws) h _ (by rw [hw]; exact List.mem_cons_self))
    cases hn.symm.trans hn9
    exact ⟨meth, c, h1, h2, h3, h4, h5, h6⟩
  · intro p e s m args below meth c s₁ B hml hP _
    have hh0 : s₁.heap = s.heap := by rw [B.state]; rfl
    have hcw := atoms_spec (ws := ws) B.pre (Cond.codeWith y cc maxL ret hh) (by rw [hw]; exact List.mem_cons_self)
    obtain ⟨t, a1, o, b1, b2, b3, b4⟩ := body p e s m args below meth c s₁ B hml (vx_table (x := y) B hcw) hP s₁ hh0 (Stand.of_body B)
    exact ⟨t, o, a1, b1, b2, b3, b4⟩
/-- the one row of a table catches: the search -/
theorem g_look {e : Env} {u : State} {f : JFrame} {a : Addr} {meth : Method} {code : Code} {x : ExceptionTableEntry} {c : ClassId} {cell : Cell} (hm : u.vm.method? f.method = some meth) (hc : meth.code = some code) (ht : code.exceptionTable.toList = [x]) (hx : covers x f.pc = true) (h0 : x.catchType ≠ 0)
    (hl : u.vm.ClassLinks e.platform f.method.cls x.catchType c) (hcell : u.heap[a]? = some cell) (hobj : ∀ k, cell.vm ≠ .statics k) (hk : ∃ k, u.vm.classes[cell.cls]? = some k) (hcl : ∃ k, u.vm.classes[c]? = some k) (hfit : u.vm.assignable cell.cls c = true) (Q : Handler → Bool → List Action → State → Prop) (E : Control → List Action → State → Prop) (d : Bool) (acts : List Action) :
    Sem.wp (findHandler f a) Q E e d acts u ↔ Q (.found x.handlerPc) d acts (u.setVm (u.vm.noted f.method.cls x.catchType (.cls c))) := by
  rw [Jvm.W.findHandler_eq hm hc, ht]
  simp only [covers] at hx
  obtain ⟨ha, hb⟩ := (resolveClass_links e.toSetting hl).op (op := VmOp.resolveClass f.method.cls x.catchType) rfl
  have hal : u.vm.Alike (u.vm.noted f.method.cls x.catchType (.cls c)) := (Vm.Alike.refl u.vm).noted _ _ _
  obtain ⟨k1, hk1⟩ := hk
  obtain ⟨k2, hk2⟩ := hcl
  obtain ⟨k1', hk1', -⟩ := hal.2.2 _ _ hk1
  obtain ⟨k2', hk2', -⟩ := hal.2.2 _ _ hk2
  have hfit' : (u.vm.noted f.method.cls x.catchType (.cls c)).assignable cell.cls c = true := by rw [hal.assignable]; exact hfit
  simp [findHandler.go, hx, h0, ha, hb, hcell, hobj, hk1', hk2', hfit', VmOp.dirties, VmOp.acts]
theorem g_stepc {e : Env} {s : State} {a : Addr} {f : JFrame} {r : List Frame} {pc : Nat} {vm' : Vm} (hfind : ∀ (Q : Handler → Bool → List Action → State → Prop) (E : Control → List Action → State → Prop) (d : Bool) (acts : List Action), Sem.wp (findHandler f a) Q E e d acts s ↔ Q (.found pc) d acts (s.setVm vm')) :
    (stepThrowing e s a (.java f :: r)).Is ((s.setVm vm').setFrames (.java { f with pc := pc, stack := [.ref a] } :: r)) [] := by
  simp only [stepThrowing, searchFrame, vmDo]
  generalize hr : Sem.go _ e false [] s = res
  obtain ⟨as, rfl, ha⟩ := Sem.eq_ok_of hr (a := Handler.found pc) (s' := s.setVm vm') (acts' := []) (by simp [hfind _ _ _ _])
  exact ⟨rfl, ha⟩
/-- caught by the only row of this method's table -/
theorem g_catch {p : Program} {l : Launch} {e : Env} {R : Room} {s : State} {m : MethodId} {args : Array Value} {below : List Frame} {meth : Method} {c : Code} {H : Heap} {locs : List Loc} {cells slots : Nat} {Q : State → Prop} {pc : Nat} {ls : Array Slot} {rest : List Value} {own name E : String} {ce : Cell} {q : Addr} {x : ExceptionTableEntry} (hown : s.vm.findClass own = some m.cls) (htab : c.exceptionTable.toList = [x]) (hx : covers x pc = true) (h0 : x.catchType ≠ 0)
    (hlink : (Cond.classLink own x.catchType name).before args s = true) (hcast : (Cond.castable E name).before args s = true) (hcell : H[q]? = some ce) (hv : ce.vm = .none) (hcl : s.vm.findClass E = some ce.cls)
    (kk : W p l e R s m args below meth c H locs cells slots Q (F0 m x.handlerPc ls [.ref q])) : vx_W p l e R s m args below meth c H locs cells slots Q (F0 m pc ls rest) q := by
  intro T hT X
  have hpl : e.platform.magicAccessors = ({} : Platform).magicAccessors := by rw [X.admits.platform]
  obtain ⟨c3, c4, hc3, hc4, hasg⟩ := Cond.castable_spec hcast
  cases Option.some.inj (hc3.symm.trans hcl)
  obtain ⟨c5, hc5, hcl5⟩ := Cond.classLink_spec hown hlink e.platform hpl
  cases Option.some.inj (hc4.symm.trans hc5)
  have hal := X.warmed.alike
  have hl : T.vm.ClassLinks e.platform m.cls x.catchType c4 := X.warmed.classLinks hcl5
  obtain ⟨dk, _, _, kt, hd, _, _, _, _, hkt, _, hopen⟩ := hcl5.here
  obtain ⟨k9, hk9, -⟩ := Vm.findClass_spec hcl
  obtain ⟨k9', hk9', -⟩ := hal.2.2 _ _ hk9
  obtain ⟨kt', hkt', -⟩ := hal.2.2 _ _ hkt
  have hW' : s.WarmedH (T.vm.noted m.cls x.catchType (.cls c4)) := X.warmed.noted hd hopen (State.rightAt_cls hcl5)
  obtain ⟨t, a1, b1⟩ := kk (T.setVm (T.vm.noted m.cls x.catchType (.cls c4))) hT (X.noted hW')
  refine ⟨t, ?_, b1⟩
  have hfind := g_look (e := e) (u := (T.setTop (F0 m pc ls rest)).pushFrame (.throwing q)) (f := F0 m pc ls rest) (a := q) (meth := meth) (code := c) (x := x) (c := c4) (cell := ce) X.method' X.code htab hx h0 hl (by show T.heap[q]? = some ce; rw [hT]; exact hcell) (by rw [hv]; intro k h; cases h) ⟨k9', hk9'⟩ ⟨kt', hkt'⟩ (by show T.vm.assignable ce.cls c4 = true; rw [hal.assignable]; exact hasg)
  have hat : At T (F0 m pc ls rest).method c below := X.here
  obtain ⟨hgo, hw⟩ := hat.throwing (g := F0 m pc ls rest) q
  refine Steps.head hgo hw ?_
  rw [stepThread_throwing (frames_entered hat.top _), (g_stepc (s := (T.setTop (F0 m pc ls rest)).pushFrame (.throwing q)) hfind).1]
  obtain ⟨g₀, hg⟩ := Option.isSome_iff_exists.mp hat.top
  obtain ⟨r, hr⟩ := State.topJava?_eq_some.mp hg
  have hr' : (T.setVm (T.vm.noted m.cls x.catchType (.cls c4))).frames = .java g₀ :: r := hr
  have hss : ∀ (u : State) (vm' : Vm) (F G : List Frame), ((u.setFrames F).setVm vm').setFrames G = (u.setVm vm').setFrames G := fun u vm' F G => by
    rw [show (u.setFrames F).setVm vm' = (u.setVm vm').setFrames F from rfl, State.setFrames_setFrames]
  rw [State.setTop_of_frames _ hr'] at a1
  rw [hr, List.tail_cons, State.pushFrame, hss, State.setTop_of_frames _ hr, hss]
  exact a1

def fX8_textAt (lf : Int32) (ch1 : Nat → Int32) (ln1 ov1 : Int32) (x : Int32) : Int32 :=
  if x < 0 then
    0
  else
    if x < ln1 then
      (ch1 x.toNatClampNeg)
    else
      0
theorem inc_X8_textAt_8 : ∀ w ∈ u_ws RX8 TX8 8, w ∈ wsX8_textAt := by decide +kernel
theorem inc_X8_textAt_6 : ∀ w ∈ u_ws RX6 TX6 3, w ∈ wsX8_textAt := by decide +kernel
set_option maxHeartbeats 4000000 in
set_option maxRecDepth 100000 in
theorem c_X8_textAt (l : Launch) (dC : Nat → ClassId) (dI : Nat → Nat → Nat) (cB cC cI cJ : ClassId) (hl9 : l.stackTraces = false) (sz : Nat) (h0 d0 d1 d2 d3 d4 d5 d6 b1 : Nat) (lf : Int32) (ch1 : Nat → Int32) (ln1 ov1 : Int32) (x : Int32) (hq0 : 0 ≤ ln1.toInt) (hq1 : ln1.toInt ≤ 6000) : vx_Met l yX8_textAt wsX8_textAt ({ frames := 6, cells := 1, slots := 6, locals := 90 } : Room) (cPx dC dI cB cC cI cJ [.ref h0, .int x] sz [(h0, .inr (8, [.ref d0, .ref d1, .ref d2, .ref d3, .ref d4, .ref d5, .ref d6, .int lf])), (d6, .inr (6, [.ref b1, .int ln1, .int ov1])), (b1, .inl (cC, 6000, .inl ch1))]) (va_Qi (fun r _ => r = (fX8_textAt lf ch1 ln1 ov1 x) ∧ (0 ≤ x.toInt ∧ x.toInt < ln1.toInt)) (cE dC dI (va_A [(h0, .inr (8, [.ref d0, .ref d1, .ref d2, .ref d3, .ref d4, .ref d5, .ref d6, .int lf])), (d6, .inr (6, [.ref b1, .int ln1, .int ov1])), (b1, .inl (cC, 6000, .inl ch1))] sz) [(h0, .inr (8, [.ref d0, .ref d1, .ref d2, .ref d3, .ref d4, .ref d5, .ref d6, .int lf])), (d6, .inr (6, [.ref b1, .int ln1, .int ov1])), (b1, .inl (cC, 6000, .inl ch1))]) (va_A [(h0, .inr (8, [.ref d0, .ref d1, .ref d2, .ref d3, .ref d4, .ref d5, .ref d6, .int lf])), (d6, .inr (6, [.ref b1, .int ln1, .int ov1])), (b1, .inl (cC, 6000, .inl ch1))] sz)) (vx_X (S := Unit) (fun _ => x.toInt < 0 ∨ ln1.toInt ≤ x.toInt) (fun E _ t => E = "java/util/NoSuchElementException" ∧ va_P (dC, dI) vwCl [(h0, .inr (8, [.ref d0, .ref d1, .ref d2, .ref d3, .ref d4, .ref d5, .ref d6, .int lf])), (d6, .inr (6, [.ref b1, .int ln1, .int ov1])), (b1, .inl (cC, 6000, .inl ch1))] t.heap ∧ va_D (va_A [(h0, .inr (8, [.ref d0, .ref d1, .ref d2, .ref d3, .ref d4, .ref d5, .ref d6, .int lf])), (d6, .inr (6, [.ref b1, .int ln1, .int ov1])), (b1, .inl (cC, 6000, .inl ch1))] sz) [(h0, .inr (8, [.ref d0, .ref d1, .ref d2, .ref d3, .ref d4, .ref d5, .ref d6, .int lf])), (d6, .inr (6, [.ref b1, .int ln1, .int ov1])), (b1, .inl (cC, 6000, .inl ch1))]) (va_A [(h0, .inr (8, [.ref d0, .ref d1, .ref d2, .ref d3, .ref d4, .ref d5, .ref d6, .int lf])), (d6, .inr (6, [.ref b1, .int ln1, .int ov1])), (b1, .inl (cC, 6000, .inl ch1))] sz)) 1 6 (va_A [(h0, .inr (8, [.ref d0, .ref d1, .ref d2, .ref d3, .ref d4, .ref d5, .ref d6, .int lf])), (d6, .inr (6, [.ref b1, .int ln1, .int ov1])), (b1, .inl (cC, 6000, .inl ch1))] sz) := by
  refine vx_ofW (cc := cX8_textAt) (maxL := 2) (ret := (some .int)) (by decide) rfl ?_
  intro p e s m args below meth c s₁ B hml hnt hv
  obtain ⟨rfl, hsz, hP, hG, hD0, hXK⟩ := hv
  have hx := B.exec
  have hb := B.bytes
  have hr := B.returns
  have hts := atoms_spec (ws := wsX8_textAt) B.pre
  have hown : s.vm.findClass RX8 = some m.cls := findClass_of_methodNamed B.named
  have hlocks := B.notSynchronized
  subst hsz
  have hD := hD0.self (sz := s.heap.size)
  generalize hAe : va_A [(h0, .inr (8, [.ref d0, .ref d1, .ref d2, .ref d3, .ref d4, .ref d5, .ref d6, .int lf])), (d6, .inr (6, [.ref b1, .int ln1, .int ov1])), (b1, .inl (cC, 6000, .inl ch1))] s.heap.size = A at hD hXK ⊢
  have hA : ∀ q : Nat, s.heap.size ≤ q → A q := fun q h => by rw [← hAe]; exact Or.inr h
  obtain ⟨H, hH⟩ : ∃ H : Heap, H = s.heap := ⟨_, rfl⟩
  have hS : va_S A s.heap H [] := by rw [hH]; exact va_S.rf
  rw [← hH] at hP ⊢
  generalize hR : fX8_textAt lf ch1 ln1 ov1 x = R
  unfold fX8_textAt at hR
  have hl := lv_entry ([.ref h0, .int x]) (n := 2) (Nat.le_of_ble_eq_true rfl)
  rw [lg_entry_eq]
  generalize (lg_sl ([.ref h0, .int x]) ++ List.replicate (2 - (lg_sl ([.ref h0, .int x])).length) Slot.unset).toArray = ls at hl ⊢
  have hl : lv_has ls 2 [(0, .ref h0), (1, .int x)] := hl
  refine lv_iload_n hx hb dX8_textAt_0 rfl (lv_at hl 1 rfl) ?_
  refine lv_if_lt (tgt := 15) hx hb dX8_textAt_1 (by decide) (fun c_1 => ?_) (fun c_1 => ?_)
  · rw [if_pos c_1] at hR
    have e_2 : x.toInt < 0 ∨ ln1.toInt ≤ x.toInt := by
      have k_3 : (0 : Int32).toInt = 0 := by decide
      have q_4 := i_lt c_1
      try generalize Int32.toInt ln1 = z0 at *
      try generalize Int32.toInt (0 : Int32) = z1 at *
      try generalize Int32.toInt x = z2 at *
      omega
    exact vx_throw0 (own := RX8) (cls := "java/util/NoSuchElementException") (names := ["java/lang/RuntimeException", "java/lang/Exception"]) hx hb hl9 hown (by decide) (by decide) (hts (.classLink RX8 117 "java/util/NoSuchElementException") (by decide +kernel)) (hts (.initialized "java/util/NoSuchElementException") (by decide +kernel)) (vx_hat (fun w h => hts w (List.mem_cons_of_mem _ (List.mem_append_right _ h))) (by decide +kernel) (vx_c (va_Nw.use rfl hXK.2.2.1) (vx_c (va_Nw.use rfl hXK.2.2.2.1) (vx_c (va_Nw.use rfl hXK.2.2.2.2.1) (vx_c (va_Nw.use rfl hXK.2.2.2.2.2) vx_n))))) (by decide +kernel) hXK.1 hXK.2.1 hS (by rw [hml]; exact hl.1) dX8_textAt_15 dX8_textAt_18 dX8_textAt_19 dX8_textAt_22 (fun x h => (hnt x h).elim) (Nat.le_of_ble_eq_true rfl) (Nat.le_of_ble_eq_true rfl) (Nat.le_of_ble_eq_true rfl) (Nat.le_of_ble_eq_true rfl) hlocks (fun t _ h1 h2 => ⟨(), e_2, ⟨rfl, hP.kept (fun k q hk => h2 q.1 (vx_lt hP hk)), hD⟩, ⟨by rw [← hH]; exact h1, fun q hq _ => by rw [h2 q (by rw [hH]; exact hq), hH]⟩⟩) (fun z h => nomatch h) (Nat.le_of_ble_eq_true rfl) (Nat.le_of_ble_eq_true rfl)
  · rw [if_neg c_1] at hR
    refine lv_iload_n hx hb dX8_textAt_4 rfl (lv_at hl 1 rfl) ?_
    refine lv_aload_n hx hb dX8_textAt_5 rfl (lv_at hl 0 rfl) ?_
    refine va_get (D := (dC, dI)) (ci := 8) (v := .ref d6) (C := RX8) (T := TX8) (N := 8) hx hb hts inc_X8_textAt_8 hown hG.1 hP 0 rfl rfl 6 (by decide) (hts (.fieldLink RX8 50 "MappingDesk" "text" "LMappingDesk$Text;") (by decide +kernel)) (fun _ h9 => h9) rfl dX8_textAt_6 ?_
    refine va_getN (D := (dC, dI)) (ci := 6) (v := .int ln1) (C := RX6) (T := TX6) (N := 3) hx hb hts inc_X8_textAt_6 hown hG.1 hP 1 rfl rfl 1 (by decide) (hG.nf (a := RX8) (i := 116) (b := "MappingDesk$Text") (n := "length") (d := "I") (t := "MappingDesk") (by decide +kernel)) (fun _ h9 => h9) rfl dX8_textAt_9 ?_
    refine lv_icmp_lt (tgt := 23) hx hb dX8_textAt_12 (by decide) (fun c_5 => ?_) (fun c_5 => ?_)
    · rw [if_pos c_5] at hR
      refine lv_aload_n hx hb dX8_textAt_23 rfl (lv_at hl 0 rfl) ?_
      refine va_get (D := (dC, dI)) (ci := 8) (v := .ref d6) (C := RX8) (T := TX8) (N := 8) hx hb hts inc_X8_textAt_8 hown hG.1 hP 0 rfl rfl 6 (by decide) (hts (.fieldLink RX8 50 "MappingDesk" "text" "LMappingDesk$Text;") (by decide +kernel)) (fun _ h9 => h9) rfl dX8_textAt_24 ?_
      refine va_getN (D := (dC, dI)) (ci := 6) (v := .ref b1) (C := RX6) (T := TX6) (N := 3) hx hb hts inc_X8_textAt_6 hown hG.1 hP 1 rfl rfl 0 (by decide) (hG.nf (a := RX8) (i := 120) (b := "MappingDesk$Text") (n := "characters") (d := "[C") (t := "MappingDesk") (by decide +kernel)) (fun _ h9 => h9) rfl dX8_textAt_27 ?_
      refine lv_iload_n hx hb dX8_textAt_30 rfl (lv_at hl 1 rfl) ?_
      have b_6 : vp_in x 6000 := by
        have k_7 : (0 : Int32).toInt = 0 := by decide
        have q_8 := i_nlt c_1
        have q_9 := i_lt c_5
        refine vin ?_ ?_
        all_goals (try generalize Int32.toInt ln1 = z0 at *; try generalize Int32.toInt (0 : Int32) = z1 at *; try generalize Int32.toInt x = z2 at *; omega)
      refine va_cald hx hb hG.1 hP 2 1 rfl rfl b_6 dX8_textAt_31 ?_
      have e_12 : 0 ≤ x.toInt ∧ x.toInt < ln1.toInt := by
        have k_13 : (0 : Int32).toInt = 0 := by decide
        have q_14 := i_nlt c_1
        have q_15 := i_lt c_5
        try generalize Int32.toInt ln1 = z0 at *
        try generalize Int32.toInt (0 : Int32) = z1 at *
        try generalize Int32.toInt x = z2 at *
        omega
      subst hR
      refine vx_ret ?_
      refine W.widen (k := 1) (n := 6) (by omega) (by omega) ?_
      exact W.iret (v := (ch1 x.toNatClampNeg)) hx hb hr (fun t ht hW => ⟨⟨(ch1 x.toNatClampNeg), (), rfl, ⟨rfl, e_12⟩, by rw [ht]; exact hP, hD⟩, hS.F ht⟩) hS.2.2 dX8_textAt_32
    · rw [if_neg c_5] at hR
      have e_16 : x.toInt < 0 ∨ ln1.toInt ≤ x.toInt := by
        have k_17 : (0 : Int32).toInt = 0 := by decide
        have q_18 := i_nlt c_1
        have q_19 := i_nlt c_5
        try generalize Int32.toInt ln1 = z0 at *
        try generalize Int32.toInt (0 : Int32) = z1 at *
        try generalize Int32.toInt x = z2 at *
        omega
      exact vx_throw0 (own := RX8) (cls := "java/util/NoSuchElementException") (names := ["java/lang/RuntimeException", "java/lang/Exception"]) hx hb hl9 hown (by decide) (by decide) (hts (.classLink RX8 117 "java/util/NoSuchElementException") (by decide +kernel)) (hts (.initialized "java/util/NoSuchElementException") (by decide +kernel)) (vx_hat (fun w h => hts w (List.mem_cons_of_mem _ (List.mem_append_right _ h))) (by decide +kernel) (vx_c (va_Nw.use rfl hXK.2.2.1) (vx_c (va_Nw.use rfl hXK.2.2.2.1) (vx_c (va_Nw.use rfl hXK.2.2.2.2.1) (vx_c (va_Nw.use rfl hXK.2.2.2.2.2) vx_n))))) (by decide +kernel) hXK.1 hXK.2.1 hS (by rw [hml]; exact hl.1) dX8_textAt_15 dX8_textAt_18 dX8_textAt_19 dX8_textAt_22 (fun x h => (hnt x h).elim) (Nat.le_of_ble_eq_true rfl) (Nat.le_of_ble_eq_true rfl) (Nat.le_of_ble_eq_true rfl) (Nat.le_of_ble_eq_true rfl) hlocks (fun t _ h1 h2 => ⟨(), e_16, ⟨rfl, hP.kept (fun k q hk => h2 q.1 (vx_lt hP hk)), hD⟩, ⟨by rw [← hH]; exact h1, fun q hq _ => by rw [h2 q (by rw [hH]; exact hq), hH]⟩⟩) (fun z h => nomatch h) (Nat.le_of_ble_eq_true rfl) (Nat.le_of_ble_eq_true rfl)

set_option maxHeartbeats 4000000 in
set_option maxRecDepth 100000 in
theorem c_L_textAt (l : Launch) (dC : Nat → ClassId) (dI : Nat → Nat → Nat) (cB cC cI cJ : ClassId) (hl9 : l.stackTraces = false) (sz : Nat) (h0 d0 d1 d2 d3 d4 d5 d6 b1 p0 : Nat) (lf : Int32) (ch1 : Nat → Int32) (ln1 ov1 x : Int32) (ou : Nat → Int64) (hq0 : 0 ≤ ln1.toInt) (hq1 : ln1.toInt ≤ 6000) : Met l yL_textAt wsL_textAt ({ frames := 7, cells := 1, slots := 6, locals := 111 } : Room) (cPx dC dI cB cC cI cJ [.ref h0, .int x, .ref p0] sz [(h0, .inr (8, [.ref d0, .ref d1, .ref d2, .ref d3, .ref d4, .ref d5, .ref d6, .int lf])), (d6, .inr (6, [.ref b1, .int ln1, .int ov1])), (b1, .inl (cC, 6000, .inl ch1)), (p0, .inl (cJ, 1, .inr (.inl ou)))]) (va_Qi (S := Nat → Int64) (fun r u => (r = 0 ∧ (0 ≤ x.toInt ∧ x.toInt < ln1.toInt) ∧ u = vp_updL ou (0 : Int32).toNatClampNeg ((fX8_textAt lf ch1 ln1 ov1 x : Int32).toInt64)) ∨ (r = 1 ∧ (x.toInt < 0 ∨ ln1.toInt ≤ x.toInt) ∧ u = ou)) (fun u t => va_P (dC, dI) vwCl [(h0, .inr (8, [.ref d0, .ref d1, .ref d2, .ref d3, .ref d4, .ref d5, .ref d6, .int lf])), (d6, .inr (6, [.ref b1, .int ln1, .int ov1])), (b1, .inl (cC, 6000, .inl ch1)), (p0, .inl (cJ, 1, .inr (.inl u)))] t.heap ∧ va_D (va_A [(h0, .inr (8, [.ref d0, .ref d1, .ref d2, .ref d3, .ref d4, .ref d5, .ref d6, .int lf])), (d6, .inr (6, [.ref b1, .int ln1, .int ov1])), (b1, .inl (cC, 6000, .inl ch1)), (p0, .inl (cJ, 1, .inr (.inl ou)))] sz) [(h0, .inr (8, [.ref d0, .ref d1, .ref d2, .ref d3, .ref d4, .ref d5, .ref d6, .int lf])), (d6, .inr (6, [.ref b1, .int ln1, .int ov1])), (b1, .inl (cC, 6000, .inl ch1)), (p0, .inl (cJ, 1, .inr (.inl u)))]) (va_A [(h0, .inr (8, [.ref d0, .ref d1, .ref d2, .ref d3, .ref d4, .ref d5, .ref d6, .int lf])), (d6, .inr (6, [.ref b1, .int ln1, .int ov1])), (b1, .inl (cC, 6000, .inl ch1)), (p0, .inl (cJ, 1, .inr (.inl ou)))] sz)) 1 6 (va_A [(h0, .inr (8, [.ref d0, .ref d1, .ref d2, .ref d3, .ref d4, .ref d5, .ref d6, .int lf])), (d6, .inr (6, [.ref b1, .int ln1, .int ov1])), (b1, .inl (cC, 6000, .inl ch1)), (p0, .inl (cJ, 1, .inr (.inl ou)))] sz) := by
  refine g_ofWH (cc := cL_textAt) (maxL := 4) (ret := (some .int)) (hh := [(0, 9, 12, 13)]) (by decide) rfl ?_
  intro p e s m args below meth c s₁ B hml hTab hv
  obtain ⟨rfl, hsz, hP, hG, hD0, hXK⟩ := hv
  have hx := B.exec
  have hb := B.bytes
  have hr := B.returns
  have hts := atoms_spec (ws := wsL_textAt) B.pre
  have hown : s.vm.findClass RL = some m.cls := findClass_of_methodNamed B.named
  have hlocks := B.notSynchronized
  subst hsz
  have hD := hD0.self (sz := s.heap.size)
  generalize hAe : va_A [(h0, .inr (8, [.ref d0, .ref d1, .ref d2, .ref d3, .ref d4, .ref d5, .ref d6, .int lf])), (d6, .inr (6, [.ref b1, .int ln1, .int ov1])), (b1, .inl (cC, 6000, .inl ch1)), (p0, .inl (cJ, 1, .inr (.inl ou)))] s.heap.size = A at hD hXK ⊢
  have hA : ∀ q : Nat, s.heap.size ≤ q → A q := fun q h => by rw [← hAe]; exact Or.inr h
  obtain ⟨H, hH⟩ : ∃ H : Heap, H = s.heap := ⟨_, rfl⟩
  have hS : va_S A s.heap H [] := by rw [hH]; exact va_S.rf
  rw [← hH] at hP ⊢
  have hl := lv_entry ([.ref h0, .int x, .ref p0]) (n := 4) (Nat.le_of_ble_eq_true rfl)
  rw [lg_entry_eq]
  generalize (lg_sl ([.ref h0, .int x, .ref p0]) ++ List.replicate (4 - (lg_sl ([.ref h0, .int x, .ref p0])).length) Slot.unset).toArray = ls at hl ⊢
  have hl : lv_has ls 4 [(0, .ref h0), (1, .int x), (2, .ref p0)] := hl
  refine lv_aload_n hx hb dL_textAt_0 rfl (lv_at hl 2 rfl) ?_
  refine lv_iconst (v := 0) hx hb dL_textAt_1 (by decide) ?_
  refine lv_aload_n hx hb dL_textAt_2 rfl (lv_at hl 0 rfl) ?_
  refine lv_iload_n hx hb dL_textAt_3 rfl (lv_at hl 1 rfl) ?_
  have hPc := hP.sub (ws' := [(h0, .inr (8, [.ref d0, .ref d1, .ref d2, .ref d3, .ref d4, .ref d5, .ref d6, .int lf])), (d6, .inr (6, [.ref b1, .int ln1, .int ov1])), (b1, .inl (cC, 6000, .inl ch1))]) [0, 1, 2] rfl
  have hDc := hD.sub (ws' := [(h0, .inr (8, [.ref d0, .ref d1, .ref d2, .ref d3, .ref d4, .ref d5, .ref d6, .int lf])), (d6, .inr (6, [.ref b1, .int ln1, .int ov1])), (b1, .inl (cC, 6000, .inl ch1))]) [0, 1, 2] (by decide) rfl
  have hFc := va_free (wc := [(h0, .inr (8, [.ref d0, .ref d1, .ref d2, .ref d3, .ref d4, .ref d5, .ref d6, .int lf])), (d6, .inr (6, [.ref b1, .int ln1, .int ov1])), (b1, .inl (cC, 6000, .inl ch1))]) hD hS hA [0, 1, 2] rfl
  refine vx_calli (vx_runV (As := [.int x]) (rest := [.int 0, .ref p0]) ⟨hx, hb, hml, hown, hts⟩ (c_X8_textAt l dC dI cB cC cI cJ hl9 H.size h0 d0 d1 d2 d3 d4 d5 d6 b1 lf ch1 ln1 ov1 x hq0 hq1) (cwV 1 hts gL_textAt_X8_textAt rfl rfl rfl (by decide +kernel) ⟨(Nat.le_of_ble_eq_true rfl), (Nat.le_of_ble_eq_true rfl)⟩) ⟨cPx_blind, va_recv hG.1 hPc (ci := 8) (q0 := 0) rfl rfl, cPx_pre hPc hG hDc hXK hS hFc⟩ rfl rfl hl.1 rfl (lv_room (Nat.le_of_ble_eq_true rfl)) dL_textAt_4 ⟨(Nat.le_of_ble_eq_true rfl), (Nat.le_of_ble_eq_true rfl)⟩) hS (fun q _ h => hFc q h) hFc (fun q _ h => hFc q h) (fun E ce q9 u t H1 locs ht hvm hw hB hz1 hk1 hS hce hcv hcl => ?_) (fun r u t H1 locs ht hvm hw hB hz1 hk1 hS => ?_)
  · obtain ⟨rfl, hP1, hD1⟩ := hB
    rw [ht] at hP1
    obtain ⟨hP, hD⟩ := va_join (wr := [(p0, .inl (cJ, 1, .inr (.inl ou)))]) (w1 := [(h0, .inr (8, [.ref d0, .ref d1, .ref d2, .ref d3, .ref d4, .ref d5, .ref d6, .int lf])), (d6, .inr (6, [.ref b1, .int ln1, .int ov1])), (b1, .inl (cC, 6000, .inl ch1))]) hP hD [0, 1, 2] [3] rfl rfl (by decide) (by decide) hk1 hFc hP1 hD1
    have hP := hP.sub (ws' := [(h0, .inr (8, [.ref d0, .ref d1, .ref d2, .ref d3, .ref d4, .ref d5, .ref d6, .int lf])), (d6, .inr (6, [.ref b1, .int ln1, .int ov1])), (b1, .inl (cC, 6000, .inl ch1)), (p0, .inl (cJ, 1, .inr (.inl ou)))]) [1, 2, 3, 0] rfl
    have hD := hD.sub (ws' := [(h0, .inr (8, [.ref d0, .ref d1, .ref d2, .ref d3, .ref d4, .ref d5, .ref d6, .int lf])), (d6, .inr (6, [.ref b1, .int ln1, .int ov1])), (b1, .inl (cC, 6000, .inl ch1)), (p0, .inl (cJ, 1, .inr (.inl ou)))]) [1, 2, 3, 0] (by decide) rfl
    refine g_catch (own := RL) (name := NSE) (x := ⟨0, 9, 12, 13⟩) hown (by rw [hTab]; rfl) (by decide) (by decide) (hts (.classLink RL 13 NSE) (by decide +kernel)) (va_Nw.use rfl hXK.2.2.1) hce hcv hcl ?_
    refine W.widen (k := 1) (n := 6) (by omega) (by omega) ?_
    refine lv_astore_n (lv' := [(3, .ref q9), (0, .ref h0), (1, .int x), (2, .ref p0)]) hx hb dL_textAt_12 rfl hl (by decide) rfl (fun ls hl => ?_)
    refine lv_iconst (v := 1) hx hb dL_textAt_13 (by decide) ?_
    exact W.iret (v := 1) hx hb hr (fun t ht hW => ⟨⟨1, ou, rfl, Or.inr ⟨rfl, hw, rfl⟩, by rw [ht]; exact hP, hD⟩, hS.F ht⟩) hS.2.2 dL_textAt_14
  · obtain ⟨hP1, hD1⟩ := hB
    rw [ht] at hP1
    obtain ⟨hw, hi⟩ := hw
    obtain ⟨hP, hD⟩ := va_join (wr := [(p0, .inl (cJ, 1, .inr (.inl ou)))]) (w1 := [(h0, .inr (8, [.ref d0, .ref d1, .ref d2, .ref d3, .ref d4, .ref d5, .ref d6, .int lf])), (d6, .inr (6, [.ref b1, .int ln1, .int ov1])), (b1, .inl (cC, 6000, .inl ch1))]) hP hD [0, 1, 2] [3] rfl rfl (by decide) (by decide) hk1 hFc hP1 hD1
    have hP := hP.sub (ws' := [(h0, .inr (8, [.ref d0, .ref d1, .ref d2, .ref d3, .ref d4, .ref d5, .ref d6, .int lf])), (d6, .inr (6, [.ref b1, .int ln1, .int ov1])), (b1, .inl (cC, 6000, .inl ch1)), (p0, .inl (cJ, 1, .inr (.inl ou)))]) [1, 2, 3, 0] rfl
    have hD := hD.sub (ws' := [(h0, .inr (8, [.ref d0, .ref d1, .ref d2, .ref d3, .ref d4, .ref d5, .ref d6, .int lf])), (d6, .inr (6, [.ref b1, .int ln1, .int ov1])), (b1, .inl (cC, 6000, .inl ch1)), (p0, .inl (cJ, 1, .inr (.inl ou)))]) [1, 2, 3, 0] (by decide) rfl
    refine W.widen (k := 1) (n := 6) (by omega) (by omega) ?_
    refine lv_i2l hx hb dL_textAt_7 rfl ?_
    refine va_last hx hb hG.1 hP hD hS 3 3 rfl rfl (vin (by decide) (by decide)) dL_textAt_8 (fun H locs hP hD hS => ?_)
    have hP : va_P (dC, dI) vwCl [(h0, .inr (8, [.ref d0, .ref d1, .ref d2, .ref d3, .ref d4, .ref d5, .ref d6, .int lf])), (d6, .inr (6, [.ref b1, .int ln1, .int ov1])), (b1, .inl (cC, 6000, .inl ch1)), (p0, .inl (cJ, 1, .inr (.inl (vp_updL ou (0 : Int32).toNatClampNeg ((r : Int32).toInt64)))))] H := hP
    have hD : va_D A [(h0, .inr (8, [.ref d0, .ref d1, .ref d2, .ref d3, .ref d4, .ref d5, .ref d6, .int lf])), (d6, .inr (6, [.ref b1, .int ln1, .int ov1])), (b1, .inl (cC, 6000, .inl ch1)), (p0, .inl (cJ, 1, .inr (.inl (vp_updL ou (0 : Int32).toNatClampNeg ((r : Int32).toInt64)))))] := hD
    refine lv_goto (tgt := 15) hx hb dL_textAt_9 (by decide) ?_
    refine lv_iconst (v := 0) hx hb dL_textAt_15 (by decide) ?_
    exact W.iret (v := 0) hx hb hr (fun t ht hW => ⟨⟨0, (vp_updL ou (0 : Int32).toNatClampNeg ((r : Int32).toInt64)), rfl, Or.inl ⟨rfl, hi, by rw [hw]⟩, by rw [ht]; exact hP, hD⟩, hS.F ht⟩) hS.2.2 dL_textAt_16
