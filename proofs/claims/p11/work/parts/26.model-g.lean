def fX9_readAll_A (th dc tl xl fo fa mn ft wl : Int32) (dr : Nat → Int32) (tp : Nat → Int32) (nu : Nat → Int64) (la : Nat → Int64) (nn : Int32) : Nat → Nat → Int32 → Int32 → Int32 → Int32 → (Nat → Int32) → Int32 → Int32 → Int32 → (Nat → Int64) → (Nat → Int64) → Int32 × Int32 × Int32 × Int32 × Int32 × (Nat → Int32) × (Nat → Int64) × (Nat → Int64)
  | 0, _, _, _, _, _, _, _, _, _, _, _ => (0, 0, 0, 0, 0, (fun _ => 0), (fun _ => 0), (fun _ => 0))
  | n + 1, hd, pp, mo, fs, dcz, drz, foz, faz, mnz, nuz, laz =>
    if hd = 28 then
      if nn ≤ pp then
        (1, dcz, foz, faz, mnz, drz, nuz, laz)
      else
        if (tp pp.toNatClampNeg) = 59 then
          if (lg_cmp (laz (0 : Int32).toNatClampNeg) 199) = 0 then
            bnd (fX9_fails th dcz tl xl foz faz mnz ft wl 5 pp) fun r_91 =>
            (r_91.1, dcz, r_91.2.1, r_91.2.2, mnz, drz, nuz, laz)
          else
            fX9_readAll_A th dc tl xl fo fa mn ft wl dr tp nu la nn n 28 (pp + 1) 0 0 dcz drz foz faz mnz nuz (vp_updL (vp_updL laz (0 : Int32).toNatClampNeg ((laz (0 : Int32).toNatClampNeg) + 1)) (1 : Int32).toNatClampNeg 0)
        else
          fX9_readAll_A th dc tl xl fo fa mn ft wl dr tp nu la nn n 89 pp 1 0 dcz drz foz faz mnz nuz laz
    else if hd = 89 then
      if mo = 0 then
        fX9_readAll_A th dc tl xl fo fa mn ft wl dr tp nu la nn n 28 pp 0 0 dcz drz foz faz mnz nuz laz
      else
        if pp = nn then
          bnd (fX9_fails th dcz tl xl foz faz mnz ft wl 3 pp) fun r_115 =>
          (r_115.1, dcz, r_115.2.1, r_115.2.2, mnz, drz, nuz, laz)
        else
          if (tp pp.toNatClampNeg) = 44 then
            bnd (fX9_fails th dcz tl xl foz faz mnz ft wl 3 pp) fun r_127 =>
            (r_127.1, dcz, r_127.2.1, r_127.2.2, mnz, drz, nuz, laz)
          else
            if (tp pp.toNatClampNeg) = 59 then
              bnd (fX9_fails th dcz tl xl foz faz mnz ft wl 3 pp) fun r_222 =>
              (r_222.1, dcz, r_222.2.1, r_222.2.2, mnz, drz, nuz, laz)
            else
              fX9_readAll_A th dc tl xl fo fa mn ft wl dr tp nu la nn n 135 pp 0 pp dcz drz foz faz 0 nuz laz
    else 
      if nn ≤ pp then
        bnd (fX9_segment th dcz tl xl foz faz mnz ft wl drz nuz laz fs) fun r_234 =>
        if r_234.1 = 0 then
          (0, r_234.2.1, r_234.2.2.1, r_234.2.2.2.1, mnz, r_234.2.2.2.2.1, nuz, r_234.2.2.2.2.2)
        else
          fX9_readAll_A th dc tl xl fo fa mn ft wl dr tp nu la nn n 89 pp 0 0 r_234.2.1 r_234.2.2.2.2.1 r_234.2.2.1 r_234.2.2.2.1 mnz nuz r_234.2.2.2.2.2
      else
        if (tp pp.toNatClampNeg) = 44 then
          bnd (fX9_segment th dcz tl xl foz faz mnz ft wl drz nuz laz fs) fun r_284 =>
          if r_284.1 = 0 then
            (0, r_284.2.1, r_284.2.2.1, r_284.2.2.2.1, mnz, r_284.2.2.2.2.1, nuz, r_284.2.2.2.2.2)
          else
            fX9_readAll_A th dc tl xl fo fa mn ft wl dr tp nu la nn n 89 (pp + 1) 1 0 r_284.2.1 r_284.2.2.2.2.1 r_284.2.2.1 r_284.2.2.2.1 mnz nuz r_284.2.2.2.2.2
        else
          if (tp pp.toNatClampNeg) = 59 then
            bnd (fX9_segment th dcz tl xl foz faz mnz ft wl drz nuz laz fs) fun r_375 =>
            if r_375.1 = 0 then
              (0, r_375.2.1, r_375.2.2.1, r_375.2.2.2.1, mnz, r_375.2.2.2.2.1, nuz, r_375.2.2.2.2.2)
            else
              fX9_readAll_A th dc tl xl fo fa mn ft wl dr tp nu la nn n 89 pp 0 0 r_375.2.1 r_375.2.2.2.2.1 r_375.2.2.1 r_375.2.2.2.1 mnz nuz r_375.2.2.2.2.2
          else
            bnd (fX9_number th dcz tl xl foz faz mnz ft wl tp nuz pp nn) fun r_474 =>
            if 0 ≤ r_474.1 then
              fX9_readAll_A th dc tl xl fo fa mn ft wl dr tp nu la nn n 135 r_474.1 0 fs dcz drz r_474.2.1 r_474.2.2.1 r_474.2.2.2.1 r_474.2.2.2.2 laz
            else
              (0, dcz, r_474.2.1, r_474.2.2.1, r_474.2.2.2.1, drz, r_474.2.2.2.2, laz)
def fX9_readAll_7 (th dc tl xl fo fa mn ft wl : Int32) (dr : Nat → Int32) (tp : Nat → Int32) (nu : Nat → Int64) (la : Nat → Int64) (nn : Int32) : Nat → Int32 → (Nat → Int64) → Int32 × Int32 × Int32 × Int32 × Int32 × (Nat → Int32) × (Nat → Int64) × (Nat → Int64)
  | 0, _, _ => (0, 0, 0, 0, 0, (fun _ => 0), (fun _ => 0), (fun _ => 0))
  | n + 1, k, lz =>
    if 6 ≤ k then
      fX9_readAll_A th dc tl xl fo fa mn ft wl dr tp nu la nn 24100 28 0 0 0 0 dr fo fa mn nu lz
    else
      fX9_readAll_7 th dc tl xl fo fa mn ft wl dr tp nu la nn n (k + 1) (vp_updL lz k.toNatClampNeg 0)
def fX9_readAll (th dc tl xl fo fa mn ft wl : Int32) (dr : Nat → Int32) (tp : Nat → Int32) (nu : Nat → Int64) (la : Nat → Int64) (nn : Int32) : Int32 × Int32 × Int32 × Int32 × Int32 × (Nat → Int32) × (Nat → Int64) × (Nat → Int64) :=
  fX9_readAll_7 th dc tl xl fo fa mn ft wl dr tp nu la nn 7 0 la
theorem inc_X9_readAll_9 : ∀ w ∈ u_ws RX9 TX9 17, w ∈ wsX9_readAll := by decide +kernel
set_option maxHeartbeats 4000000 in
set_option maxRecDepth 100000 in
theorem c_X9_readAll (l : Launch) (dC : Nat → ClassId) (dI : Nat → Nat → Nat) (cB cC cI cJ : ClassId) (sz : Nat) (h0 a0 a1 a2 a3 a4 a5 a6 a7 : Nat) (th dc tl xl fo fa mn ft wl : Int32) (dr : Nat → Int32) (tp : Nat → Int32) (nu : Nat → Int64) (la : Nat → Int64) (nn : Int32) (hn0 : 0 ≤ nn.toInt) (hn1 : nn.toInt ≤ 3000) : Met l yX9_readAll wsX9_readAll ({ frames := 2, cells := 0, slots := 0, locals := 53 } : Room) (cP dC dI cB cC cI cJ [.ref h0, .int nn] sz [(h0, .inr (9, [.int th, .ref a0, .ref a1, .ref a2, .int dc, .ref a3, .int tl, .ref a4, .int xl, .int fo, .int fa, .ref a5, .int mn, .ref a6, .int ft, .ref a7, .int wl])), (a2, .inl (cI, 1800, .inl dr)), (a3, .inl (cB, 3000, .inl tp)), (a5, .inl (cJ, 6, .inr (.inl nu))), (a6, .inl (cJ, 6, .inr (.inl la)))]) (va_Qi (fun r _ => r = (fX9_readAll th dc tl xl fo fa mn ft wl dr tp nu la nn).1 ∧ (0 ≤ (fX9_readAll th dc tl xl fo fa mn ft wl dr tp nu la nn).2.1.toInt ∧ (fX9_readAll th dc tl xl fo fa mn ft wl dr tp nu la nn).2.1.toInt ≤ 300)) (cE dC dI (va_A [(h0, .inr (9, [.int th, .ref a0, .ref a1, .ref a2, .int dc, .ref a3, .int tl, .ref a4, .int xl, .int fo, .int fa, .ref a5, .int mn, .ref a6, .int ft, .ref a7, .int wl])), (a2, .inl (cI, 1800, .inl dr)), (a3, .inl (cB, 3000, .inl tp)), (a5, .inl (cJ, 6, .inr (.inl nu))), (a6, .inl (cJ, 6, .inr (.inl la)))] sz) [(h0, .inr (9, [.int th, .ref a0, .ref a1, .ref a2, .int (fX9_readAll th dc tl xl fo fa mn ft wl dr tp nu la nn).2.1, .ref a3, .int tl, .ref a4, .int xl, .int (fX9_readAll th dc tl xl fo fa mn ft wl dr tp nu la nn).2.2.1, .int (fX9_readAll th dc tl xl fo fa mn ft wl dr tp nu la nn).2.2.2.1, .ref a5, .int (fX9_readAll th dc tl xl fo fa mn ft wl dr tp nu la nn).2.2.2.2.1, .ref a6, .int ft, .ref a7, .int wl])), (a2, .inl (cI, 1800, .inl (fX9_readAll th dc tl xl fo fa mn ft wl dr tp nu la nn).2.2.2.2.2.1)), (a3, .inl (cB, 3000, .inl tp)), (a5, .inl (cJ, 6, .inr (.inl (fX9_readAll th dc tl xl fo fa mn ft wl dr tp nu la nn).2.2.2.2.2.2.1))), (a6, .inl (cJ, 6, .inr (.inl (fX9_readAll th dc tl xl fo fa mn ft wl dr tp nu la nn).2.2.2.2.2.2.2)))]) (va_A [(h0, .inr (9, [.int th, .ref a0, .ref a1, .ref a2, .int dc, .ref a3, .int tl, .ref a4, .int xl, .int fo, .int fa, .ref a5, .int mn, .ref a6, .int ft, .ref a7, .int wl])), (a2, .inl (cI, 1800, .inl dr)), (a3, .inl (cB, 3000, .inl tp)), (a5, .inl (cJ, 6, .inr (.inl nu))), (a6, .inl (cJ, 6, .inr (.inl la)))] sz)) 0 0 (va_A [(h0, .inr (9, [.int th, .ref a0, .ref a1, .ref a2, .int dc, .ref a3, .int tl, .ref a4, .int xl, .int fo, .int fa, .ref a5, .int mn, .ref a6, .int ft, .ref a7, .int wl])), (a2, .inl (cI, 1800, .inl dr)), (a3, .inl (cB, 3000, .inl tp)), (a5, .inl (cJ, 6, .inr (.inl nu))), (a6, .inl (cJ, 6, .inr (.inl la)))] sz) := by
  refine Met.ofW (cc := cX9_readAll) (maxL := 5) (ret := (some .boolean)) (by decide) rfl ?_
  intro p e s m args below meth c s₁ B hml hv
  obtain ⟨rfl, hsz, hP, hG, hD0⟩ := hv
  have hx := B.exec
  have hb := B.bytes
  have hr := B.returns
  have hts := atoms_spec (ws := wsX9_readAll) B.pre
  have hown : s.vm.findClass RX9 = some m.cls := findClass_of_methodNamed B.named
  have hlocks := B.notSynchronized
  subst hsz
  have hD := hD0.self (sz := s.heap.size)
  generalize hAe : va_A [(h0, .inr (9, [.int th, .ref a0, .ref a1, .ref a2, .int dc, .ref a3, .int tl, .ref a4, .int xl, .int fo, .int fa, .ref a5, .int mn, .ref a6, .int ft, .ref a7, .int wl])), (a2, .inl (cI, 1800, .inl dr)), (a3, .inl (cB, 3000, .inl tp)), (a5, .inl (cJ, 6, .inr (.inl nu))), (a6, .inl (cJ, 6, .inr (.inl la)))] s.heap.size = A at hD ⊢
  have hA : ∀ q : Nat, s.heap.size ≤ q → A q := fun q h => by rw [← hAe]; exact Or.inr h
  obtain ⟨H, hH⟩ : ∃ H : Heap, H = s.heap := ⟨_, rfl⟩
  have hS : va_S A s.heap H [] := by rw [hH]; exact va_S.rf
  rw [← hH] at hP ⊢
  generalize hR : fX9_readAll th dc tl xl fo fa mn ft wl dr tp nu la nn = R
  unfold fX9_readAll at hR
  have hl := lv_entry ([.ref h0, .int nn]) (n := 5) (Nat.le_of_ble_eq_true rfl)
  rw [lg_entry_eq]
  generalize (lg_sl ([.ref h0, .int nn]) ++ List.replicate (5 - (lg_sl ([.ref h0, .int nn])).length) Slot.unset).toArray = ls at hl ⊢
  have hl : lv_has ls 5 [(0, .ref h0), (1, .int nn)] := hl
  have loops_A : ∀ (n : Nat), (∀ (pp : Int32) (mo : Int32) (fs : Int32) (dcz : Int32) (drz : Nat → Int32) (foz : Int32) (faz : Int32) (mnz : Int32) (nuz : Nat → Int64) (laz : Nat → Int64) (H : Heap) (locs : List Loc) (ls : Array Slot), fX9_readAll_A th dc tl xl fo fa mn ft wl dr tp nu la nn n 28 pp mo fs dcz drz foz faz mnz nuz laz = R → (0 ≤ pp.toInt) → (pp.toInt ≤ nn.toInt) → (0 ≤ dcz.toInt) → (dcz.toInt ≤ 300) → (8 * (nn.toInt - pp.toInt) + 7 < ((n : Nat) : Int)) → va_P (dC, dI) vwCl [(h0, .inr (9, [.int th, .ref a0, .ref a1, .ref a2, .int dcz, .ref a3, .int tl, .ref a4, .int xl, .int foz, .int faz, .ref a5, .int mnz, .ref a6, .int ft, .ref a7, .int wl])), (a2, .inl (cI, 1800, .inl drz)), (a3, .inl (cB, 3000, .inl tp)), (a5, .inl (cJ, 6, .inr (.inl nuz))), (a6, .inl (cJ, 6, .inr (.inl laz)))] H → va_D A [(h0, .inr (9, [.int th, .ref a0, .ref a1, .ref a2, .int dcz, .ref a3, .int tl, .ref a4, .int xl, .int foz, .int faz, .ref a5, .int mnz, .ref a6, .int ft, .ref a7, .int wl])), (a2, .inl (cI, 1800, .inl drz)), (a3, .inl (cB, 3000, .inl tp)), (a5, .inl (cJ, 6, .inr (.inl nuz))), (a6, .inl (cJ, 6, .inr (.inl laz)))] → va_S A s.heap H locs → lv_has ls 5 [(0, .ref h0), (1, .int nn), (2, .int pp)] → W p l e (headSpec wsX9_readAll ({ frames := 2, cells := 0, slots := 0, locals := 53 } : Room)).room s m ([.ref h0, .int nn] : List Value).toArray below meth c H locs 0 0 (MQ below (va_Qi (fun r _ => r = R.1 ∧ (0 ≤ R.2.1.toInt ∧ R.2.1.toInt ≤ 300)) (cE dC dI (A) [(h0, .inr (9, [.int th, .ref a0, .ref a1, .ref a2, .int R.2.1, .ref a3, .int tl, .ref a4, .int xl, .int R.2.2.1, .int R.2.2.2.1, .ref a5, .int R.2.2.2.2.1, .ref a6, .int ft, .ref a7, .int wl])), (a2, .inl (cI, 1800, .inl R.2.2.2.2.2.1)), (a3, .inl (cB, 3000, .inl tp)), (a5, .inl (cJ, 6, .inr (.inl R.2.2.2.2.2.2.1))), (a6, .inl (cJ, 6, .inr (.inl R.2.2.2.2.2.2.2)))]) (A)) ([.ref h0, .int nn] : List Value).toArray s 0 0 A) (F0 m 28 ls [])) ∧ (∀ (pp : Int32) (mo : Int32) (fs : Int32) (dcz : Int32) (drz : Nat → Int32) (foz : Int32) (faz : Int32) (mnz : Int32) (nuz : Nat → Int64) (laz : Nat → Int64) (H : Heap) (locs : List Loc) (ls : Array Slot), fX9_readAll_A th dc tl xl fo fa mn ft wl dr tp nu la nn n 89 pp mo fs dcz drz foz faz mnz nuz laz = R → (0 ≤ pp.toInt) → (pp.toInt ≤ nn.toInt) → (0 ≤ dcz.toInt) → (dcz.toInt ≤ 300) → ((mo.toInt = 0 → 8 * (nn.toInt - pp.toInt) + 8 < ((n : Nat) : Int)) ∧ (mo.toInt ≠ 0 → 8 * (nn.toInt - pp.toInt) + 6 < ((n : Nat) : Int)) ∧ 0 < ((n : Nat) : Int)) → va_P (dC, dI) vwCl [(h0, .inr (9, [.int th, .ref a0, .ref a1, .ref a2, .int dcz, .ref a3, .int tl, .ref a4, .int xl, .int foz, .int faz, .ref a5, .int mnz, .ref a6, .int ft, .ref a7, .int wl])), (a2, .inl (cI, 1800, .inl drz)), (a3, .inl (cB, 3000, .inl tp)), (a5, .inl (cJ, 6, .inr (.inl nuz))), (a6, .inl (cJ, 6, .inr (.inl laz)))] H → va_D A [(h0, .inr (9, [.int th, .ref a0, .ref a1, .ref a2, .int dcz, .ref a3, .int tl, .ref a4, .int xl, .int foz, .int faz, .ref a5, .int mnz, .ref a6, .int ft, .ref a7, .int wl])), (a2, .inl (cI, 1800, .inl drz)), (a3, .inl (cB, 3000, .inl tp)), (a5, .inl (cJ, 6, .inr (.inl nuz))), (a6, .inl (cJ, 6, .inr (.inl laz)))] → va_S A s.heap H locs → lv_has ls 5 [(0, .ref h0), (1, .int nn), (2, .int pp), (3, .int mo)] → W p l e (headSpec wsX9_readAll ({ frames := 2, cells := 0, slots := 0, locals := 53 } : Room)).room s m ([.ref h0, .int nn] : List Value).toArray below meth c H locs 0 0 (MQ below (va_Qi (fun r _ => r = R.1 ∧ (0 ≤ R.2.1.toInt ∧ R.2.1.toInt ≤ 300)) (cE dC dI (A) [(h0, .inr (9, [.int th, .ref a0, .ref a1, .ref a2, .int R.2.1, .ref a3, .int tl, .ref a4, .int xl, .int R.2.2.1, .int R.2.2.2.1, .ref a5, .int R.2.2.2.2.1, .ref a6, .int ft, .ref a7, .int wl])), (a2, .inl (cI, 1800, .inl R.2.2.2.2.2.1)), (a3, .inl (cB, 3000, .inl tp)), (a5, .inl (cJ, 6, .inr (.inl R.2.2.2.2.2.2.1))), (a6, .inl (cJ, 6, .inr (.inl R.2.2.2.2.2.2.2)))]) (A)) ([.ref h0, .int nn] : List Value).toArray s 0 0 A) (F0 m 89 ls [])) ∧ (∀ (pp : Int32) (mo : Int32) (fs : Int32) (dcz : Int32) (drz : Nat → Int32) (foz : Int32) (faz : Int32) (mnz : Int32) (nuz : Nat → Int64) (laz : Nat → Int64) (H : Heap) (locs : List Loc) (ls : Array Slot), fX9_readAll_A th dc tl xl fo fa mn ft wl dr tp nu la nn n 135 pp mo fs dcz drz foz faz mnz nuz laz = R → (0 ≤ pp.toInt) → (pp.toInt ≤ nn.toInt) → (0 ≤ dcz.toInt) → (dcz.toInt ≤ 300) → (fs.toInt ≤ pp.toInt) → (0 ≤ mnz.toInt) → (mnz.toInt ≤ pp.toInt) → (pp.toInt = fs.toInt → (pp.toInt < nn.toInt ∧ (tp pp.toNatClampNeg).toInt ≠ 44 ∧ (tp pp.toNatClampNeg).toInt ≠ 59)) → ((pp.toInt = fs.toInt → 8 * (nn.toInt - pp.toInt) + 5 < ((n : Nat) : Int)) ∧ (fs.toInt < pp.toInt → 8 * (nn.toInt - pp.toInt) + 12 < ((n : Nat) : Int))) → va_P (dC, dI) vwCl [(h0, .inr (9, [.int th, .ref a0, .ref a1, .ref a2, .int dcz, .ref a3, .int tl, .ref a4, .int xl, .int foz, .int faz, .ref a5, .int mnz, .ref a6, .int ft, .ref a7, .int wl])), (a2, .inl (cI, 1800, .inl drz)), (a3, .inl (cB, 3000, .inl tp)), (a5, .inl (cJ, 6, .inr (.inl nuz))), (a6, .inl (cJ, 6, .inr (.inl laz)))] H → va_D A [(h0, .inr (9, [.int th, .ref a0, .ref a1, .ref a2, .int dcz, .ref a3, .int tl, .ref a4, .int xl, .int foz, .int faz, .ref a5, .int mnz, .ref a6, .int ft, .ref a7, .int wl])), (a2, .inl (cI, 1800, .inl drz)), (a3, .inl (cB, 3000, .inl tp)), (a5, .inl (cJ, 6, .inr (.inl nuz))), (a6, .inl (cJ, 6, .inr (.inl laz)))] → va_S A s.heap H locs → lv_has ls 5 [(0, .ref h0), (1, .int nn), (2, .int pp), (4, .int fs)] → W p l e (headSpec wsX9_readAll ({ frames := 2, cells := 0, slots := 0, locals := 53 } : Room)).room s m ([.ref h0, .int nn] : List Value).toArray below meth c H locs 0 0 (MQ below (va_Qi (fun r _ => r = R.1 ∧ (0 ≤ R.2.1.toInt ∧ R.2.1.toInt ≤ 300)) (cE dC dI (A) [(h0, .inr (9, [.int th, .ref a0, .ref a1, .ref a2, .int R.2.1, .ref a3, .int tl, .ref a4, .int xl, .int R.2.2.1, .int R.2.2.2.1, .ref a5, .int R.2.2.2.2.1, .ref a6, .int ft, .ref a7, .int wl])), (a2, .inl (cI, 1800, .inl R.2.2.2.2.2.1)), (a3, .inl (cB, 3000, .inl tp)), (a5, .inl (cJ, 6, .inr (.inl R.2.2.2.2.2.2.1))), (a6, .inl (cJ, 6, .inr (.inl R.2.2.2.2.2.2.2)))]) (A)) ([.ref h0, .int nn] : List Value).toArray s 0 0 A) (F0 m 135 ls [])) := by
    intro n
    induction n with
    | zero =>
      refine ⟨?_, ?_, ?_⟩
      · intro pp mo fs dcz drz foz faz mnz nuz laz H locs ls hR hp0 hp1 hd0 hd1 hmu; exfalso; omega
      · intro pp mo fs dcz drz foz faz mnz nuz laz H locs ls hR hp0 hp1 hd0 hd1 hmu; exfalso; omega
      · intro pp mo fs dcz drz foz faz mnz nuz laz H locs ls hR hp0 hp1 hd0 hd1 hf hm0 hm1 hch hmu; exfalso; omega
    | succ n ih =>
      obtain ⟨ih_28, ih_89, ih_135⟩ := ih
      refine ⟨?_, ?_, ?_⟩
      · intro pp mo fs dcz drz foz faz mnz nuz laz H locs ls hR hp0 hp1 hd0 hd1 hmu hP hD hS hl
        rw [fX9_readAll_A] at hR
        rw [if_pos rfl] at hR
        refine lv_iload_n hx hb dX9_readAll_28 rfl (lv_at hl 2 rfl) ?_
        refine lv_iload_n hx hb dX9_readAll_29 rfl (lv_at hl 1 rfl) ?_
        refine lv_icmp_ge (tgt := 221) hx hb dX9_readAll_30 (by decide) (fun c_1 => ?_) (fun c_1 => ?_)
        · rw [if_pos c_1] at hR
          refine lv_iconst (v := 1) hx hb dX9_readAll_221 (by decide) ?_
          have e_2 : 0 ≤ (dcz : Int32).toInt ∧ (dcz : Int32).toInt ≤ 300 := by
            clear hmu
            have q_3 := i_le c_1
            try generalize Int32.toInt dcz = z0 at *
            try generalize Int32.toInt nn = z1 at *
            try generalize Int32.toInt pp = z2 at *
            omega
          subst hR
          exact W.zret (v := 1) hx hb hr rfl (fun t ht hW => ⟨⟨1, (), rfl, ⟨rfl, e_2⟩, by rw [ht]; exact hP, hD⟩, hS.F ht⟩) hS.2.2 dX9_readAll_222
        · rw [if_neg c_1] at hR
          refine lv_aload_n hx hb dX9_readAll_33 rfl (lv_at hl 0 rfl) ?_
          refine va_get (D := (dC, dI)) (ci := 9) (v := .ref a3) (C := RX9) (T := TX9) (N := 17) hx hb hts inc_X9_readAll_9 hown hG.1 hP 0 rfl rfl 5 (by decide) (hts (.fieldLink RX9 26 "MappingDeskModel" "tape" "[B") (by decide +kernel)) (fun _ h9 => h9) rfl dX9_readAll_34 ?_
          refine lv_iload_n hx hb dX9_readAll_37 rfl (lv_at hl 2 rfl) ?_
          have b_4 : vp_in pp 3000 := by
            clear hmu
            have q_5 := i_nle c_1
            refine vin ?_ ?_
            all_goals (try generalize Int32.toInt dcz = z0 at *; try generalize Int32.toInt nn = z1 at *; try generalize Int32.toInt pp = z2 at *; omega)
          refine va_bald hx hb hG.1 hP 2 0 rfl rfl b_4 dX9_readAll_38 ?_
          refine lv_bipush (v := 59) hx hb dX9_readAll_39 (by decide) ?_
          refine lv_icmp_ne (tgt := 87) hx hb dX9_readAll_41 (by decide) (fun c_8 => ?_) (fun c_8 => ?_)
          · rw [if_neg c_8] at hR
            refine lv_iconst (v := 1) hx hb dX9_readAll_87 (by decide) ?_
            refine lv_istore_n (lv' := [(3, .int 1), (0, .ref h0), (1, .int nn), (2, .int pp)]) hx hb dX9_readAll_88 rfl hl (by decide) rfl (fun ls hl => ?_)
            have v_12 : 0 ≤ pp.toInt := by
              clear hmu
              have q_13 := i_nle c_1
              have k_14 : (59 : Int32).toInt = 59 := by decide
              have q_15 := i_ne c_8
              try generalize Int32.toInt (tp pp.toNatClampNeg) = z0 at *
              try generalize Int32.toInt dcz = z1 at *
              try generalize Int32.toInt (59 : Int32) = z2 at *
              try generalize Int32.toInt nn = z3 at *
              try generalize Int32.toInt pp = z4 at *
              omega
            have v_16 : pp.toInt ≤ nn.toInt := by
              clear hmu
              have q_17 := i_nle c_1
              have k_18 : (59 : Int32).toInt = 59 := by decide
              have q_19 := i_ne c_8
              try generalize Int32.toInt (tp pp.toNatClampNeg) = z0 at *
              try generalize Int32.toInt dcz = z1 at *
              try generalize Int32.toInt (59 : Int32) = z2 at *
              try generalize Int32.toInt nn = z3 at *
              try generalize Int32.toInt pp = z4 at *
              omega
            have v_20 : 0 ≤ dcz.toInt := by
              clear hmu
              have q_21 := i_nle c_1
              have k_22 : (59 : Int32).toInt = 59 := by decide
              have q_23 := i_ne c_8
              try generalize Int32.toInt (tp pp.toNatClampNeg) = z0 at *
              try generalize Int32.toInt dcz = z1 at *
              try generalize Int32.toInt (59 : Int32) = z2 at *
              try generalize Int32.toInt nn = z3 at *
              try generalize Int32.toInt pp = z4 at *
              omega
            have v_24 : dcz.toInt ≤ 300 := by
              clear hmu
              have q_25 := i_nle c_1
              have k_26 : (59 : Int32).toInt = 59 := by decide
              have q_27 := i_ne c_8
              try generalize Int32.toInt (tp pp.toNatClampNeg) = z0 at *
              try generalize Int32.toInt dcz = z1 at *
              try generalize Int32.toInt (59 : Int32) = z2 at *
              try generalize Int32.toInt nn = z3 at *
              try generalize Int32.toInt pp = z4 at *
              omega
            have v_28 : ((1 : Int32).toInt = 0 → 8 * (nn.toInt - pp.toInt) + 8 < ((n : Nat) : Int)) ∧ ((1 : Int32).toInt ≠ 0 → 8 * (nn.toInt - pp.toInt) + 6 < ((n : Nat) : Int)) ∧ 0 < ((n : Nat) : Int) := by
              have q_29 := i_nle c_1
              have k_30 : (59 : Int32).toInt = 59 := by decide
              have q_31 := i_ne c_8
              have k_32 : (1 : Int32).toInt = 1 := by decide
              try generalize Int32.toInt (tp pp.toNatClampNeg) = z0 at *
              try generalize Int32.toInt dcz = z1 at *
              try generalize Int32.toInt (59 : Int32) = z2 at *
              try generalize Int32.toInt nn = z3 at *
              try generalize Int32.toInt pp = z4 at *
              try generalize Int32.toInt (1 : Int32) = z5 at *
              omega
            exact ih_89 (pp) (1) (0) (dcz) (drz) (foz) (faz) (mnz) (nuz) (laz) _ _ ls hR v_12 v_16 v_20 v_24 v_28 hP hD hS (lv_sub hl [1, 2, 3, 0] rfl)
          · rw [if_pos c_8] at hR
            refine lv_aload_n hx hb dX9_readAll_44 rfl (lv_at hl 0 rfl) ?_
            refine va_get (D := (dC, dI)) (ci := 9) (v := .ref a6) (C := RX9) (T := TX9) (N := 17) hx hb hts inc_X9_readAll_9 hown hG.1 hP 0 rfl rfl 13 (by decide) (hts (.fieldLink RX9 52 "MappingDeskModel" "latest" "[J") (by decide +kernel)) (fun _ h9 => h9) rfl dX9_readAll_45 ?_
            refine lv_iconst (v := 0) hx hb dX9_readAll_48 (by decide) ?_
            have b_33 : vp_in 0 6 := by
              clear hmu
              have q_34 := i_nle c_1
              have k_35 : (59 : Int32).toInt = 59 := by decide
              have q_36 := i_eq c_8
              have k_37 : (0 : Int32).toInt = 0 := by decide
              refine vin ?_ ?_
              all_goals (try generalize Int32.toInt (tp pp.toNatClampNeg) = z0 at *; try generalize Int32.toInt dcz = z1 at *; try generalize Int32.toInt (59 : Int32) = z2 at *; try generalize Int32.toInt nn = z3 at *; try generalize Int32.toInt pp = z4 at *; try generalize Int32.toInt (0 : Int32) = z5 at *; omega)
            refine va_lald hx hb hG.1 hP 4 3 rfl rfl b_33 dX9_readAll_49 ?_
            refine lv_ldc2 (v := 199) hx hb hown (hts (.constantLong RX9 83 199) (by decide +kernel)) dX9_readAll_50 ?_
            refine W.lcmp hx hb dX9_readAll_53 ?_
            refine lv_if_ne (tgt := 64) hx hb dX9_readAll_54 (by decide) (fun c_40 => ?_) (fun c_40 => ?_)
            · rw [if_neg c_40] at hR
              refine lv_aload_n hx hb dX9_readAll_64 rfl (lv_at hl 0 rfl) ?_
              refine va_get (D := (dC, dI)) (ci := 9) (v := .ref a6) (C := RX9) (T := TX9) (N := 17) hx hb hts inc_X9_readAll_9 hown hG.1 hP 0 rfl rfl 13 (by decide) (hts (.fieldLink RX9 52 "MappingDeskModel" "latest" "[J") (by decide +kernel)) (fun _ h9 => h9) rfl dX9_readAll_65 ?_
              refine lv_iconst (v := 0) hx hb dX9_readAll_68 (by decide) ?_
              refine lv_dup2_11 hx hb dX9_readAll_69 rfl rfl ?_
              have b_41 : vp_in 0 6 := by
                clear hmu
                have q_42 := i_nle c_1
                have k_43 : (59 : Int32).toInt = 59 := by decide
                have q_44 := i_eq c_8
                have k_45 : (0 : Int32).toInt = 0 := by decide
                refine vin ?_ ?_
                all_goals (try generalize Int32.toInt (tp pp.toNatClampNeg) = z0 at *; try generalize Int32.toInt dcz = z1 at *; try generalize Int32.toInt (59 : Int32) = z2 at *; try generalize Int32.toInt nn = z3 at *; try generalize Int32.toInt pp = z4 at *; try generalize Int32.toInt (0 : Int32) = z5 at *; omega)
              refine va_lald hx hb hG.1 hP 4 3 rfl rfl b_41 dX9_readAll_70 ?_
              refine lv_lconst (v := 1) hx hb dX9_readAll_71 (by decide) ?_
              refine lv_ladd hx hb dX9_readAll_72 ?_
              have b_48 : vp_in 0 6 := by
                clear hmu
                have q_49 := i_nle c_1
                have k_50 : (59 : Int32).toInt = 59 := by decide
                have q_51 := i_eq c_8
                have k_52 : (0 : Int32).toInt = 0 := by decide
                refine vin ?_ ?_
                all_goals (try generalize Int32.toInt (tp pp.toNatClampNeg) = z0 at *; try generalize Int32.toInt dcz = z1 at *; try generalize Int32.toInt (59 : Int32) = z2 at *; try generalize Int32.toInt nn = z3 at *; try generalize Int32.toInt pp = z4 at *; try generalize Int32.toInt (0 : Int32) = z5 at *; omega)
              refine va_last hx hb hG.1 hP hD hS 4 3 rfl rfl b_48 dX9_readAll_73 (fun H locs hP hD hS => ?_)
              have hP : va_P (dC, dI) vwCl [(h0, .inr (9, [.int th, .ref a0, .ref a1, .ref a2, .int dcz, .ref a3, .int tl, .ref a4, .int xl, .int foz, .int faz, .ref a5, .int mnz, .ref a6, .int ft, .ref a7, .int wl])), (a2, .inl (cI, 1800, .inl drz)), (a3, .inl (cB, 3000, .inl tp)), (a5, .inl (cJ, 6, .inr (.inl nuz))), (a6, .inl (cJ, 6, .inr (.inl (vp_updL laz (0 : Int32).toNatClampNeg ((laz (0 : Int32).toNatClampNeg) + 1)))))] H := hP
              have hD : va_D A [(h0, .inr (9, [.int th, .ref a0, .ref a1, .ref a2, .int dcz, .ref a3, .int tl, .ref a4, .int xl, .int foz, .int faz, .ref a5, .int mnz, .ref a6, .int ft, .ref a7, .int wl])), (a2, .inl (cI, 1800, .inl drz)), (a3, .inl (cB, 3000, .inl tp)), (a5, .inl (cJ, 6, .inr (.inl nuz))), (a6, .inl (cJ, 6, .inr (.inl (vp_updL laz (0 : Int32).toNatClampNeg ((laz (0 : Int32).toNatClampNeg) + 1)))))] := hD
              refine lv_aload_n hx hb dX9_readAll_74 rfl (lv_at hl 0 rfl) ?_
              refine va_get (D := (dC, dI)) (ci := 9) (v := .ref a6) (C := RX9) (T := TX9) (N := 17) hx hb hts inc_X9_readAll_9 hown hG.1 hP 0 rfl rfl 13 (by decide) (hts (.fieldLink RX9 52 "MappingDeskModel" "latest" "[J") (by decide +kernel)) (fun _ h9 => h9) rfl dX9_readAll_75 ?_
              refine lv_iconst (v := 1) hx hb dX9_readAll_78 (by decide) ?_
              refine lv_lconst (v := 0) hx hb dX9_readAll_79 (by decide) ?_
              have b_55 : vp_in 1 6 := by
                clear hmu
                have q_56 := i_nle c_1
                have k_57 : (59 : Int32).toInt = 59 := by decide
                have q_58 := i_eq c_8
                have k_59 : (1 : Int32).toInt = 1 := by decide
                refine vin ?_ ?_
                all_goals (try generalize Int32.toInt (tp pp.toNatClampNeg) = z0 at *; try generalize Int32.toInt dcz = z1 at *; try generalize Int32.toInt (59 : Int32) = z2 at *; try generalize Int32.toInt nn = z3 at *; try generalize Int32.toInt pp = z4 at *; try generalize Int32.toInt (1 : Int32) = z5 at *; omega)
              refine va_last hx hb hG.1 hP hD hS 4 3 rfl rfl b_55 dX9_readAll_80 (fun H locs hP hD hS => ?_)
              have hP : va_P (dC, dI) vwCl [(h0, .inr (9, [.int th, .ref a0, .ref a1, .ref a2, .int dcz, .ref a3, .int tl, .ref a4, .int xl, .int foz, .int faz, .ref a5, .int mnz, .ref a6, .int ft, .ref a7, .int wl])), (a2, .inl (cI, 1800, .inl drz)), (a3, .inl (cB, 3000, .inl tp)), (a5, .inl (cJ, 6, .inr (.inl nuz))), (a6, .inl (cJ, 6, .inr (.inl (vp_updL (vp_updL laz (0 : Int32).toNatClampNeg ((laz (0 : Int32).toNatClampNeg) + 1)) (1 : Int32).toNatClampNeg 0))))] H := hP
              have hD : va_D A [(h0, .inr (9, [.int th, .ref a0, .ref a1, .ref a2, .int dcz, .ref a3, .int tl, .ref a4, .int xl, .int foz, .int faz, .ref a5, .int mnz, .ref a6, .int ft, .ref a7, .int wl])), (a2, .inl (cI, 1800, .inl drz)), (a3, .inl (cB, 3000, .inl tp)), (a5, .inl (cJ, 6, .inr (.inl nuz))), (a6, .inl (cJ, 6, .inr (.inl (vp_updL (vp_updL laz (0 : Int32).toNatClampNeg ((laz (0 : Int32).toNatClampNeg) + 1)) (1 : Int32).toNatClampNeg 0))))] := hD
              refine lv_iinc (v := (pp + 1)) (lv' := [(2, .int (pp + 1)), (0, .ref h0), (1, .int nn)]) hx hb dX9_readAll_81 hl (k := 2) rfl rfl (by decide) rfl (fun ls hl => ?_)
              refine lv_goto (tgt := 28) hx hb dX9_readAll_84 (by decide) ?_
              have v_65 : 0 ≤ ((pp + 1)).toInt := by
                clear hmu
                have q_66 := i_nle c_1
                have k_67 : (59 : Int32).toInt = 59 := by decide
                have q_68 := i_eq c_8
                have k_69 : (1 : Int32).toInt = 1 := by decide
                have t_70 := ti_add (a := pp) (b := 1) (by omega) (by omega)
                try generalize Int32.toInt (tp pp.toNatClampNeg) = z0 at *
                try generalize Int32.toInt (pp + 1) = z1 at *
                try generalize Int32.toInt dcz = z2 at *
                try generalize Int32.toInt (59 : Int32) = z3 at *
                try generalize Int32.toInt nn = z4 at *
                try generalize Int32.toInt pp = z5 at *
                try generalize Int32.toInt (1 : Int32) = z6 at *
                omega
              have v_71 : ((pp + 1)).toInt ≤ nn.toInt := by
                clear hmu
                have q_72 := i_nle c_1
                have k_73 : (59 : Int32).toInt = 59 := by decide
                have q_74 := i_eq c_8
                have k_75 : (1 : Int32).toInt = 1 := by decide
                have t_76 := ti_add (a := pp) (b := 1) (by omega) (by omega)
                try generalize Int32.toInt (tp pp.toNatClampNeg) = z0 at *
                try generalize Int32.toInt (pp + 1) = z1 at *
                try generalize Int32.toInt dcz = z2 at *
                try generalize Int32.toInt (59 : Int32) = z3 at *
                try generalize Int32.toInt nn = z4 at *
                try generalize Int32.toInt pp = z5 at *
                try generalize Int32.toInt (1 : Int32) = z6 at *
                omega
              have v_77 : 0 ≤ dcz.toInt := by
                clear hmu
                have q_78 := i_nle c_1
                have k_79 : (59 : Int32).toInt = 59 := by decide
                have q_80 := i_eq c_8
                try generalize Int32.toInt (tp pp.toNatClampNeg) = z0 at *
                try generalize Int32.toInt dcz = z1 at *
                try generalize Int32.toInt (59 : Int32) = z2 at *
                try generalize Int32.toInt nn = z3 at *
                try generalize Int32.toInt pp = z4 at *
                omega
              have v_81 : dcz.toInt ≤ 300 := by
                clear hmu
                have q_82 := i_nle c_1
                have k_83 : (59 : Int32).toInt = 59 := by decide
                have q_84 := i_eq c_8
                try generalize Int32.toInt (tp pp.toNatClampNeg) = z0 at *
                try generalize Int32.toInt dcz = z1 at *
                try generalize Int32.toInt (59 : Int32) = z2 at *
                try generalize Int32.toInt nn = z3 at *
                try generalize Int32.toInt pp = z4 at *
                omega
              have v_85 : 8 * (nn.toInt - ((pp + 1)).toInt) + 7 < ((n : Nat) : Int) := by
                have q_86 := i_nle c_1
                have k_87 : (59 : Int32).toInt = 59 := by decide
                have q_88 := i_eq c_8
                have k_89 : (1 : Int32).toInt = 1 := by decide
                have t_90 := ti_add (a := pp) (b := 1) (by omega) (by omega)
                try generalize Int32.toInt (tp pp.toNatClampNeg) = z0 at *
                try generalize Int32.toInt (pp + 1) = z1 at *
                try generalize Int32.toInt dcz = z2 at *
                try generalize Int32.toInt (59 : Int32) = z3 at *
                try generalize Int32.toInt nn = z4 at *
                try generalize Int32.toInt pp = z5 at *
                try generalize Int32.toInt (1 : Int32) = z6 at *
                omega
              exact ih_28 ((pp + 1)) (0) (0) (dcz) (drz) (foz) (faz) (mnz) (nuz) ((vp_updL (vp_updL laz (0 : Int32).toNatClampNeg ((laz (0 : Int32).toNatClampNeg) + 1)) (1 : Int32).toNatClampNeg 0)) _ _ ls hR v_65 v_71 v_77 v_81 v_85 hP hD hS (lv_sub hl [1, 2, 0] rfl)
            · rw [if_pos c_40] at hR
              refine lv_aload_n hx hb dX9_readAll_57 rfl (lv_at hl 0 rfl) ?_
              refine lv_iconst (v := 5) hx hb dX9_readAll_58 (by decide) ?_
              refine lv_iload_n hx hb dX9_readAll_59 rfl (lv_at hl 2 rfl) ?_
              have hPc := hP.sub (ws' := [(h0, .inr (9, [.int th, .ref a0, .ref a1, .ref a2, .int dcz, .ref a3, .int tl, .ref a4, .int xl, .int foz, .int faz, .ref a5, .int mnz, .ref a6, .int ft, .ref a7, .int wl]))]) [0] rfl
              have hDc := hD.sub (ws' := [(h0, .inr (9, [.int th, .ref a0, .ref a1, .ref a2, .int dcz, .ref a3, .int tl, .ref a4, .int xl, .int foz, .int faz, .ref a5, .int mnz, .ref a6, .int ft, .ref a7, .int wl]))]) [0] (by decide) rfl
              have hFc := va_free (wc := [(h0, .inr (9, [.int th, .ref a0, .ref a1, .ref a2, .int dcz, .ref a3, .int tl, .ref a4, .int xl, .int foz, .int faz, .ref a5, .int mnz, .ref a6, .int ft, .ref a7, .int wl]))]) hD hS hA [0] rfl
              refine va_calli (va_runV (As := [.int 5, .int pp]) (rest := []) ⟨hx, hb, hml, hown, hts⟩ (c_X9_fails l dC dI cB cC cI cJ H.size h0 a0 a1 a2 a3 a4 a5 a6 a7 th dcz tl xl foz faz mnz ft wl 5 pp ) (cwV 2 hts gX9_readAll_X9_fails rfl rfl rfl (by decide +kernel) ⟨(Nat.le_of_ble_eq_true rfl), (Nat.le_of_ble_eq_true rfl)⟩) ⟨cP_blind, va_recv hG.1 hPc (ci := 9) (q0 := 0) rfl rfl, cP_pre hPc hG hDc⟩ rfl rfl hl.1 rfl (lv_room (Nat.le_of_ble_eq_true rfl)) dX9_readAll_60 ⟨Nat.le_of_ble_eq_true rfl, Nat.le_of_ble_eq_true rfl⟩) hS (fun q _ h => hFc q h) hFc (fun r_91v u t H1 locs ht hvm hw hB hz1 hk1 hS => ?_)
              obtain ⟨hP1, hD1⟩ := hB
              rw [ht] at hP1
              generalize hr_91 : fX9_fails th dcz tl xl foz faz mnz ft wl 5 pp = r_91 at hP1 hD1 hw
              obtain ⟨hw, er_91_0⟩ := hw
              rw [bnd_eq hr_91] at hR
              subst hw
              obtain ⟨hP, hD⟩ := va_join (wr := [(a2, .inl (cI, 1800, .inl drz)), (a3, .inl (cB, 3000, .inl tp)), (a5, .inl (cJ, 6, .inr (.inl nuz))), (a6, .inl (cJ, 6, .inr (.inl laz)))]) (w1 := [(h0, .inr (9, [.int th, .ref a0, .ref a1, .ref a2, .int dcz, .ref a3, .int tl, .ref a4, .int xl, .int r_91.2.1, .int r_91.2.2, .ref a5, .int mnz, .ref a6, .int ft, .ref a7, .int wl]))]) hP hD [0] [1, 2, 3, 4] rfl rfl (by decide) (by decide) hk1 hFc hP1 hD1
              generalize H1 = H at hP hS ⊢
              have hP := hP.sub (ws' := [(h0, .inr (9, [.int th, .ref a0, .ref a1, .ref a2, .int dcz, .ref a3, .int tl, .ref a4, .int xl, .int r_91.2.1, .int r_91.2.2, .ref a5, .int mnz, .ref a6, .int ft, .ref a7, .int wl])), (a2, .inl (cI, 1800, .inl drz)), (a3, .inl (cB, 3000, .inl tp)), (a5, .inl (cJ, 6, .inr (.inl nuz))), (a6, .inl (cJ, 6, .inr (.inl laz)))]) [4, 0, 1, 2, 3] rfl
              have hD := hD.sub (ws' := [(h0, .inr (9, [.int th, .ref a0, .ref a1, .ref a2, .int dcz, .ref a3, .int tl, .ref a4, .int xl, .int r_91.2.1, .int r_91.2.2, .ref a5, .int mnz, .ref a6, .int ft, .ref a7, .int wl])), (a2, .inl (cI, 1800, .inl drz)), (a3, .inl (cB, 3000, .inl tp)), (a5, .inl (cJ, 6, .inr (.inl nuz))), (a6, .inl (cJ, 6, .inr (.inl laz)))]) [4, 0, 1, 2, 3] (by decide) rfl
              have e_92 : 0 ≤ (dcz : Int32).toInt ∧ (dcz : Int32).toInt ≤ 300 := by
                clear hmu
                have q_93 := i_nle c_1
                have k_94 : (59 : Int32).toInt = 59 := by decide
                have q_95 := i_eq c_8
                try generalize Int32.toInt (tp pp.toNatClampNeg) = z0 at *
                try generalize Int32.toInt dcz = z1 at *
                try generalize Int32.toInt (59 : Int32) = z2 at *
                try generalize Int32.toInt nn = z3 at *
                try generalize Int32.toInt pp = z4 at *
                omega
              subst hR
              exact W.zret (v := r_91.1) hx hb hr (narz (by assumption)) (fun t ht hW => ⟨⟨r_91.1, (), rfl, ⟨rfl, e_92⟩, by rw [ht]; exact hP, hD⟩, hS.F ht⟩) hS.2.2 dX9_readAll_63
      · intro pp mo fs dcz drz foz faz mnz nuz laz H locs ls hR hp0 hp1 hd0 hd1 hmu hP hD hS hl
        rw [fX9_readAll_A] at hR
        rw [if_neg (by decide)] at hR
        rw [if_pos rfl] at hR
        refine lv_iload_n hx hb dX9_readAll_89 rfl (lv_at hl 3 rfl) ?_
        refine lv_if_eq (tgt := 218) hx hb dX9_readAll_90 (by decide) (fun c_96 => ?_) (fun c_96 => ?_)
        · rw [if_pos c_96] at hR
          refine lv_goto (tgt := 28) hx hb dX9_readAll_218 (by decide) ?_
          have v_99 : 0 ≤ pp.toInt := by
            clear hmu
            have k_100 : (0 : Int32).toInt = 0 := by decide
            have q_101 := i_eq c_96
            try generalize Int32.toInt dcz = z0 at *
            try generalize Int32.toInt mo = z1 at *
            try generalize Int32.toInt nn = z2 at *
            try generalize Int32.toInt pp = z3 at *
            try generalize Int32.toInt (0 : Int32) = z4 at *
            omega
          have v_102 : pp.toInt ≤ nn.toInt := by
            clear hmu
            have k_103 : (0 : Int32).toInt = 0 := by decide
            have q_104 := i_eq c_96
            try generalize Int32.toInt dcz = z0 at *
            try generalize Int32.toInt mo = z1 at *
            try generalize Int32.toInt nn = z2 at *
            try generalize Int32.toInt pp = z3 at *
            try generalize Int32.toInt (0 : Int32) = z4 at *
            omega
          have v_105 : 0 ≤ dcz.toInt := by
            clear hmu
            have k_106 : (0 : Int32).toInt = 0 := by decide
            have q_107 := i_eq c_96
            try generalize Int32.toInt dcz = z0 at *
            try generalize Int32.toInt mo = z1 at *
            try generalize Int32.toInt nn = z2 at *
            try generalize Int32.toInt pp = z3 at *
            try generalize Int32.toInt (0 : Int32) = z4 at *
            omega
          have v_108 : dcz.toInt ≤ 300 := by
            clear hmu
            have k_109 : (0 : Int32).toInt = 0 := by decide
            have q_110 := i_eq c_96
            try generalize Int32.toInt dcz = z0 at *
            try generalize Int32.toInt mo = z1 at *
            try generalize Int32.toInt nn = z2 at *
            try generalize Int32.toInt pp = z3 at *
            try generalize Int32.toInt (0 : Int32) = z4 at *
            omega
          have v_111 : 8 * (nn.toInt - pp.toInt) + 7 < ((n : Nat) : Int) := by
            have k_112 : (0 : Int32).toInt = 0 := by decide
            have q_113 := i_eq c_96
            try generalize Int32.toInt dcz = z0 at *
            try generalize Int32.toInt mo = z1 at *
            try generalize Int32.toInt nn = z2 at *
            try generalize Int32.toInt pp = z3 at *
            try generalize Int32.toInt (0 : Int32) = z4 at *
            omega
          exact ih_28 (pp) (0) (0) (dcz) (drz) (foz) (faz) (mnz) (nuz) (laz) _ _ ls hR v_99 v_102 v_105 v_108 v_111 hP hD hS (lv_sub hl [0, 1, 2] rfl)
        · rw [if_neg c_96] at hR
          refine lv_iload_n hx hb dX9_readAll_93 rfl (lv_at hl 2 rfl) ?_
          refine lv_iload_n hx hb dX9_readAll_94 rfl (lv_at hl 1 rfl) ?_
          refine lv_icmp_eq (tgt := 120) hx hb dX9_readAll_95 (by decide) (fun c_114 => ?_) (fun c_114 => ?_)
          · rw [if_pos c_114] at hR
            refine lv_aload_n hx hb dX9_readAll_120 rfl (lv_at hl 0 rfl) ?_
            refine lv_iconst (v := 3) hx hb dX9_readAll_121 (by decide) ?_
            refine lv_iload_n hx hb dX9_readAll_122 rfl (lv_at hl 2 rfl) ?_
            have hPc := hP.sub (ws' := [(h0, .inr (9, [.int th, .ref a0, .ref a1, .ref a2, .int dcz, .ref a3, .int tl, .ref a4, .int xl, .int foz, .int faz, .ref a5, .int mnz, .ref a6, .int ft, .ref a7, .int wl]))]) [0] rfl
            have hDc := hD.sub (ws' := [(h0, .inr (9, [.int th, .ref a0, .ref a1, .ref a2, .int dcz, .ref a3, .int tl, .ref a4, .int xl, .int foz, .int faz, .ref a5, .int mnz, .ref a6, .int ft, .ref a7, .int wl]))]) [0] (by decide) rfl
            have hFc := va_free (wc := [(h0, .inr (9, [.int th, .ref a0, .ref a1, .ref a2, .int dcz, .ref a3, .int tl, .ref a4, .int xl, .int foz, .int faz, .ref a5, .int mnz, .ref a6, .int ft, .ref a7, .int wl]))]) hD hS hA [0] rfl
            refine va_calli (va_runV (As := [.int 3, .int pp]) (rest := []) ⟨hx, hb, hml, hown, hts⟩ (c_X9_fails l dC dI cB cC cI cJ H.size h0 a0 a1 a2 a3 a4 a5 a6 a7 th dcz tl xl foz faz mnz ft wl 3 pp ) (cwV 2 hts gX9_readAll_X9_fails rfl rfl rfl (by decide +kernel) ⟨(Nat.le_of_ble_eq_true rfl), (Nat.le_of_ble_eq_true rfl)⟩) ⟨cP_blind, va_recv hG.1 hPc (ci := 9) (q0 := 0) rfl rfl, cP_pre hPc hG hDc⟩ rfl rfl hl.1 rfl (lv_room (Nat.le_of_ble_eq_true rfl)) dX9_readAll_123 ⟨Nat.le_of_ble_eq_true rfl, Nat.le_of_ble_eq_true rfl⟩) hS (fun q _ h => hFc q h) hFc (fun r_115v u t H1 locs ht hvm hw hB hz1 hk1 hS => ?_)
            obtain ⟨hP1, hD1⟩ := hB
            rw [ht] at hP1
            generalize hr_115 : fX9_fails th dcz tl xl foz faz mnz ft wl 3 pp = r_115 at hP1 hD1 hw
            obtain ⟨hw, er_115_0⟩ := hw
            rw [bnd_eq hr_115] at hR
            subst hw
            obtain ⟨hP, hD⟩ := va_join (wr := [(a2, .inl (cI, 1800, .inl drz)), (a3, .inl (cB, 3000, .inl tp)), (a5, .inl (cJ, 6, .inr (.inl nuz))), (a6, .inl (cJ, 6, .inr (.inl laz)))]) (w1 := [(h0, .inr (9, [.int th, .ref a0, .ref a1, .ref a2, .int dcz, .ref a3, .int tl, .ref a4, .int xl, .int r_115.2.1, .int r_115.2.2, .ref a5, .int mnz, .ref a6, .int ft, .ref a7, .int wl]))]) hP hD [0] [1, 2, 3, 4] rfl rfl (by decide) (by decide) hk1 hFc hP1 hD1
            generalize H1 = H at hP hS ⊢
            have hP := hP.sub (ws' := [(h0, .inr (9, [.int th, .ref a0, .ref a1, .ref a2, .int dcz, .ref a3, .int tl, .ref a4, .int xl, .int r_115.2.1, .int r_115.2.2, .ref a5, .int mnz, .ref a6, .int ft, .ref a7, .int wl])), (a2, .inl (cI, 1800, .inl drz)), (a3, .inl (cB, 3000, .inl tp)), (a5, .inl (cJ, 6, .inr (.inl nuz))), (a6, .inl (cJ, 6, .inr (.inl laz)))]) [4, 0, 1, 2, 3] rfl
            have hD := hD.sub (ws' := [(h0, .inr (9, [.int th, .ref a0, .ref a1, .ref a2, .int dcz, .ref a3, .int tl, .ref a4, .int xl, .int r_115.2.1, .int r_115.2.2, .ref a5, .int mnz, .ref a6, .int ft, .ref a7, .int wl])), (a2, .inl (cI, 1800, .inl drz)), (a3, .inl (cB, 3000, .inl tp)), (a5, .inl (cJ, 6, .inr (.inl nuz))), (a6, .inl (cJ, 6, .inr (.inl laz)))]) [4, 0, 1, 2, 3] (by decide) rfl
            have e_116 : 0 ≤ (dcz : Int32).toInt ∧ (dcz : Int32).toInt ≤ 300 := by
              clear hmu
              have k_117 : (0 : Int32).toInt = 0 := by decide
              have q_118 := i_ne c_96
              have q_119 := i_eq c_114
              try generalize Int32.toInt dcz = z0 at *
              try generalize Int32.toInt mo = z1 at *
              try generalize Int32.toInt nn = z2 at *
              try generalize Int32.toInt pp = z3 at *
              try generalize Int32.toInt (0 : Int32) = z4 at *
              omega
            subst hR
            exact W.zret (v := r_115.1) hx hb hr (narz (by assumption)) (fun t ht hW => ⟨⟨r_115.1, (), rfl, ⟨rfl, e_116⟩, by rw [ht]; exact hP, hD⟩, hS.F ht⟩) hS.2.2 dX9_readAll_126
          · rw [if_neg c_114] at hR
            refine lv_aload_n hx hb dX9_readAll_98 rfl (lv_at hl 0 rfl) ?_
            refine va_get (D := (dC, dI)) (ci := 9) (v := .ref a3) (C := RX9) (T := TX9) (N := 17) hx hb hts inc_X9_readAll_9 hown hG.1 hP 0 rfl rfl 5 (by decide) (hts (.fieldLink RX9 26 "MappingDeskModel" "tape" "[B") (by decide +kernel)) (fun _ h9 => h9) rfl dX9_readAll_99 ?_
            refine lv_iload_n hx hb dX9_readAll_102 rfl (lv_at hl 2 rfl) ?_
            have b_120 : vp_in pp 3000 := by
              clear hmu
              have k_121 : (0 : Int32).toInt = 0 := by decide
              have q_122 := i_ne c_96
              have q_123 := i_ne c_114
              refine vin ?_ ?_
              all_goals (try generalize Int32.toInt dcz = z0 at *; try generalize Int32.toInt mo = z1 at *; try generalize Int32.toInt nn = z2 at *; try generalize Int32.toInt pp = z3 at *; try generalize Int32.toInt (0 : Int32) = z4 at *; omega)
            refine va_bald hx hb hG.1 hP 2 0 rfl rfl b_120 dX9_readAll_103 ?_
            refine lv_bipush (v := 44) hx hb dX9_readAll_104 (by decide) ?_
            refine lv_icmp_eq (tgt := 120) hx hb dX9_readAll_106 (by decide) (fun c_126 => ?_) (fun c_126 => ?_)
            · rw [if_pos c_126] at hR
              refine lv_aload_n hx hb dX9_readAll_120 rfl (lv_at hl 0 rfl) ?_
              refine lv_iconst (v := 3) hx hb dX9_readAll_121 (by decide) ?_
              refine lv_iload_n hx hb dX9_readAll_122 rfl (lv_at hl 2 rfl) ?_
              have hPc := hP.sub (ws' := [(h0, .inr (9, [.int th, .ref a0, .ref a1, .ref a2, .int dcz, .ref a3, .int tl, .ref a4, .int xl, .int foz, .int faz, .ref a5, .int mnz, .ref a6, .int ft, .ref a7, .int wl]))]) [0] rfl
              have hDc := hD.sub (ws' := [(h0, .inr (9, [.int th, .ref a0, .ref a1, .ref a2, .int dcz, .ref a3, .int tl, .ref a4, .int xl, .int foz, .int faz, .ref a5, .int mnz, .ref a6, .int ft, .ref a7, .int wl]))]) [0] (by decide) rfl
              have hFc := va_free (wc := [(h0, .inr (9, [.int th, .ref a0, .ref a1, .ref a2, .int dcz, .ref a3, .int tl, .ref a4, .int xl, .int foz, .int faz, .ref a5, .int mnz, .ref a6, .int ft, .ref a7, .int wl]))]) hD hS hA [0] rfl
              refine va_calli (va_runV (As := [.int 3, .int pp]) (rest := []) ⟨hx, hb, hml, hown, hts⟩ (c_X9_fails l dC dI cB cC cI cJ H.size h0 a0 a1 a2 a3 a4 a5 a6 a7 th dcz tl xl foz faz mnz ft wl 3 pp ) (cwV 2 hts gX9_readAll_X9_fails rfl rfl rfl (by decide +kernel) ⟨(Nat.le_of_ble_eq_true rfl), (Nat.le_of_ble_eq_true rfl)⟩) ⟨cP_blind, va_recv hG.1 hPc (ci := 9) (q0 := 0) rfl rfl, cP_pre hPc hG hDc⟩ rfl rfl hl.1 rfl (lv_room (Nat.le_of_ble_eq_true rfl)) dX9_readAll_123 ⟨Nat.le_of_ble_eq_true rfl, Nat.le_of_ble_eq_true rfl⟩) hS (fun q _ h => hFc q h) hFc (fun r_127v u t H1 locs ht hvm hw hB hz1 hk1 hS => ?_)
              obtain ⟨hP1, hD1⟩ := hB
              rw [ht] at hP1
              generalize hr_127 : fX9_fails th dcz tl xl foz faz mnz ft wl 3 pp = r_127 at hP1 hD1 hw
              obtain ⟨hw, er_127_0⟩ := hw
              rw [bnd_eq hr_127] at hR
              subst hw
              obtain ⟨hP, hD⟩ := va_join (wr := [(a2, .inl (cI, 1800, .inl drz)), (a3, .inl (cB, 3000, .inl tp)), (a5, .inl (cJ, 6, .inr (.inl nuz))), (a6, .inl (cJ, 6, .inr (.inl laz)))]) (w1 := [(h0, .inr (9, [.int th, .ref a0, .ref a1, .ref a2, .int dcz, .ref a3, .int tl, .ref a4, .int xl, .int r_127.2.1, .int r_127.2.2, .ref a5, .int mnz, .ref a6, .int ft, .ref a7, .int wl]))]) hP hD [0] [1, 2, 3, 4] rfl rfl (by decide) (by decide) hk1 hFc hP1 hD1
              generalize H1 = H at hP hS ⊢
              have hP := hP.sub (ws' := [(h0, .inr (9, [.int th, .ref a0, .ref a1, .ref a2, .int dcz, .ref a3, .int tl, .ref a4, .int xl, .int r_127.2.1, .int r_127.2.2, .ref a5, .int mnz, .ref a6, .int ft, .ref a7, .int wl])), (a2, .inl (cI, 1800, .inl drz)), (a3, .inl (cB, 3000, .inl tp)), (a5, .inl (cJ, 6, .inr (.inl nuz))), (a6, .inl (cJ, 6, .inr (.inl laz)))]) [4, 0, 1, 2, 3] rfl
              have hD := hD.sub (ws' := [(h0, .inr (9, [.int th, .ref a0, .ref a1, .ref a2, .int dcz, .ref a3, .int tl, .ref a4, .int xl, .int r_127.2.1, .int r_127.2.2, .ref a5, .int mnz, .ref a6, .int ft, .ref a7, .int wl])), (a2, .inl (cI, 1800, .inl drz)), (a3, .inl (cB, 3000, .inl tp)), (a5, .inl (cJ, 6, .inr (.inl nuz))), (a6, .inl (cJ, 6, .inr (.inl laz)))]) [4, 0, 1, 2, 3] (by decide) rfl
              have e_128 : 0 ≤ (dcz : Int32).toInt ∧ (dcz : Int32).toInt ≤ 300 := by
                clear hmu
                have k_129 : (0 : Int32).toInt = 0 := by decide
                have q_130 := i_ne c_96
                have q_131 := i_ne c_114
                have k_132 : (44 : Int32).toInt = 44 := by decide
                have q_133 := i_eq c_126
                try generalize Int32.toInt (tp pp.toNatClampNeg) = z0 at *
                try generalize Int32.toInt dcz = z1 at *
                try generalize Int32.toInt (44 : Int32) = z2 at *
                try generalize Int32.toInt mo = z3 at *
                try generalize Int32.toInt nn = z4 at *
                try generalize Int32.toInt pp = z5 at *
                try generalize Int32.toInt (0 : Int32) = z6 at *
                omega
              subst hR
              exact W.zret (v := r_127.1) hx hb hr (narz (by assumption)) (fun t ht hW => ⟨⟨r_127.1, (), rfl, ⟨rfl, e_128⟩, by rw [ht]; exact hP, hD⟩, hS.F ht⟩) hS.2.2 dX9_readAll_126
            · rw [if_neg c_126] at hR
              refine lv_aload_n hx hb dX9_readAll_109 rfl (lv_at hl 0 rfl) ?_
              refine va_get (D := (dC, dI)) (ci := 9) (v := .ref a3) (C := RX9) (T := TX9) (N := 17) hx hb hts inc_X9_readAll_9 hown hG.1 hP 0 rfl rfl 5 (by decide) (hts (.fieldLink RX9 26 "MappingDeskModel" "tape" "[B") (by decide +kernel)) (fun _ h9 => h9) rfl dX9_readAll_110 ?_
              refine lv_iload_n hx hb dX9_readAll_113 rfl (lv_at hl 2 rfl) ?_
              have b_134 : vp_in pp 3000 := by
                clear hmu
                have k_135 : (0 : Int32).toInt = 0 := by decide
                have q_136 := i_ne c_96
                have q_137 := i_ne c_114
                have k_138 : (44 : Int32).toInt = 44 := by decide
                have q_139 := i_ne c_126
                refine vin ?_ ?_
                all_goals (try generalize Int32.toInt (tp pp.toNatClampNeg) = z0 at *; try generalize Int32.toInt dcz = z1 at *; try generalize Int32.toInt (44 : Int32) = z2 at *; try generalize Int32.toInt mo = z3 at *; try generalize Int32.toInt nn = z4 at *; try generalize Int32.toInt pp = z5 at *; try generalize Int32.toInt (0 : Int32) = z6 at *; omega)
              refine va_bald hx hb hG.1 hP 2 0 rfl rfl b_134 dX9_readAll_114 ?_
              refine lv_bipush (v := 59) hx hb dX9_readAll_115 (by decide) ?_
              refine lv_icmp_ne (tgt := 127) hx hb dX9_readAll_117 (by decide) (fun c_142 => ?_) (fun c_142 => ?_)
              · rw [if_neg c_142] at hR
                refine lv_iload_n hx hb dX9_readAll_127 rfl (lv_at hl 2 rfl) ?_
                refine lv_istore (lv' := [(4, .int pp), (0, .ref h0), (1, .int nn), (2, .int pp), (3, .int mo)]) hx hb dX9_readAll_128 hl (by decide) rfl (fun ls hl => ?_)
                refine lv_aload_n hx hb dX9_readAll_130 rfl (lv_at hl 1 rfl) ?_
                refine lv_iconst (v := 0) hx hb dX9_readAll_131 (by decide) ?_
                refine va_put (D := (dC, dI)) (ci := 9) (v := .int 0) (ty := .int) (C := RX9) (T := TX9) (N := 17) hx hb hts inc_X9_readAll_9 tyX9 tyX9_ok nmX9 hown hG.1 hP hD hS 0 rfl rfl 12 (by decide) (hts (.fieldLink RX9 49 "MappingDeskModel" "many" "I") (by decide +kernel)) (fun _ h9 => h9) rfl (by decide +kernel) rfl rfl (Nat.le_of_ble_eq_true rfl) dX9_readAll_132 (fun H locs hP hD hS => ?_)
                have hP : va_P (dC, dI) vwCl [(h0, .inr (9, [.int th, .ref a0, .ref a1, .ref a2, .int dcz, .ref a3, .int tl, .ref a4, .int xl, .int foz, .int faz, .ref a5, .int 0, .ref a6, .int ft, .ref a7, .int wl])), (a2, .inl (cI, 1800, .inl drz)), (a3, .inl (cB, 3000, .inl tp)), (a5, .inl (cJ, 6, .inr (.inl nuz))), (a6, .inl (cJ, 6, .inr (.inl laz)))] H := hP
                have hD : va_D A [(h0, .inr (9, [.int th, .ref a0, .ref a1, .ref a2, .int dcz, .ref a3, .int tl, .ref a4, .int xl, .int foz, .int faz, .ref a5, .int 0, .ref a6, .int ft, .ref a7, .int wl])), (a2, .inl (cI, 1800, .inl drz)), (a3, .inl (cB, 3000, .inl tp)), (a5, .inl (cJ, 6, .inr (.inl nuz))), (a6, .inl (cJ, 6, .inr (.inl laz)))] := hD
                have v_150 : 0 ≤ pp.toInt := by
                  clear hmu
                  have k_151 : (0 : Int32).toInt = 0 := by decide
                  have q_152 := i_ne c_96
                  have q_153 := i_ne c_114
                  have k_154 : (44 : Int32).toInt = 44 := by decide
                  have q_155 := i_ne c_126
                  have k_156 : (59 : Int32).toInt = 59 := by decide
                  have q_157 := i_ne c_142
                  try generalize Int32.toInt (tp pp.toNatClampNeg) = z0 at *
                  try generalize Int32.toInt dcz = z1 at *
                  try generalize Int32.toInt (44 : Int32) = z2 at *
                  try generalize Int32.toInt (59 : Int32) = z3 at *
                  try generalize Int32.toInt mo = z4 at *
                  try generalize Int32.toInt nn = z5 at *
                  try generalize Int32.toInt pp = z6 at *
                  try generalize Int32.toInt (0 : Int32) = z7 at *
                  omega
                have v_158 : pp.toInt ≤ nn.toInt := by
                  clear hmu
                  have k_159 : (0 : Int32).toInt = 0 := by decide
                  have q_160 := i_ne c_96
                  have q_161 := i_ne c_114
                  have k_162 : (44 : Int32).toInt = 44 := by decide
                  have q_163 := i_ne c_126
                  have k_164 : (59 : Int32).toInt = 59 := by decide
                  have q_165 := i_ne c_142
                  try generalize Int32.toInt (tp pp.toNatClampNeg) = z0 at *
                  try generalize Int32.toInt dcz = z1 at *
                  try generalize Int32.toInt (44 : Int32) = z2 at *
                  try generalize Int32.toInt (59 : Int32) = z3 at *
                  try generalize Int32.toInt mo = z4 at *
                  try generalize Int32.toInt nn = z5 at *
                  try generalize Int32.toInt pp = z6 at *
                  try generalize Int32.toInt (0 : Int32) = z7 at *
                  omega
                have v_166 : 0 ≤ dcz.toInt := by
                  clear hmu
                  have k_167 : (0 : Int32).toInt = 0 := by decide
                  have q_168 := i_ne c_96
                  have q_169 := i_ne c_114
                  have k_170 : (44 : Int32).toInt = 44 := by decide
                  have q_171 := i_ne c_126
                  have k_172 : (59 : Int32).toInt = 59 := by decide
                  have q_173 := i_ne c_142
                  try generalize Int32.toInt (tp pp.toNatClampNeg) = z0 at *
                  try generalize Int32.toInt dcz = z1 at *
                  try generalize Int32.toInt (44 : Int32) = z2 at *
                  try generalize Int32.toInt (59 : Int32) = z3 at *
                  try generalize Int32.toInt mo = z4 at *
                  try generalize Int32.toInt nn = z5 at *
                  try generalize Int32.toInt pp = z6 at *
                  try generalize Int32.toInt (0 : Int32) = z7 at *
                  omega
                have v_174 : dcz.toInt ≤ 300 := by
                  clear hmu
                  have k_175 : (0 : Int32).toInt = 0 := by decide
                  have q_176 := i_ne c_96
                  have q_177 := i_ne c_114
                  have k_178 : (44 : Int32).toInt = 44 := by decide
                  have q_179 := i_ne c_126
                  have k_180 : (59 : Int32).toInt = 59 := by decide
                  have q_181 := i_ne c_142
                  try generalize Int32.toInt (tp pp.toNatClampNeg) = z0 at *
                  try generalize Int32.toInt dcz = z1 at *
                  try generalize Int32.toInt (44 : Int32) = z2 at *
                  try generalize Int32.toInt (59 : Int32) = z3 at *
                  try generalize Int32.toInt mo = z4 at *
                  try generalize Int32.toInt nn = z5 at *
                  try generalize Int32.toInt pp = z6 at *
                  try generalize Int32.toInt (0 : Int32) = z7 at *
                  omega
                have v_182 : pp.toInt ≤ pp.toInt := by
                  clear hmu
                  have k_183 : (0 : Int32).toInt = 0 := by decide
                  have q_184 := i_ne c_96
                  have q_185 := i_ne c_114
                  have k_186 : (44 : Int32).toInt = 44 := by decide
                  have q_187 := i_ne c_126
                  have k_188 : (59 : Int32).toInt = 59 := by decide
                  have q_189 := i_ne c_142
                  try generalize Int32.toInt (tp pp.toNatClampNeg) = z0 at *
                  try generalize Int32.toInt dcz = z1 at *
                  try generalize Int32.toInt (44 : Int32) = z2 at *
                  try generalize Int32.toInt (59 : Int32) = z3 at *
                  try generalize Int32.toInt mo = z4 at *
                  try generalize Int32.toInt nn = z5 at *
                  try generalize Int32.toInt pp = z6 at *
                  try generalize Int32.toInt (0 : Int32) = z7 at *
                  omega
                have v_190 : 0 ≤ (0 : Int32).toInt := by
                  clear hmu
                  have k_191 : (0 : Int32).toInt = 0 := by decide
                  have q_192 := i_ne c_96
                  have q_193 := i_ne c_114
                  have k_194 : (44 : Int32).toInt = 44 := by decide
                  have q_195 := i_ne c_126
                  have k_196 : (59 : Int32).toInt = 59 := by decide
                  have q_197 := i_ne c_142
                  try generalize Int32.toInt (tp pp.toNatClampNeg) = z0 at *
                  try generalize Int32.toInt dcz = z1 at *
                  try generalize Int32.toInt (44 : Int32) = z2 at *
                  try generalize Int32.toInt (59 : Int32) = z3 at *
                  try generalize Int32.toInt mo = z4 at *
                  try generalize Int32.toInt nn = z5 at *
                  try generalize Int32.toInt pp = z6 at *
                  try generalize Int32.toInt (0 : Int32) = z7 at *
                  omega
                have v_198 : (0 : Int32).toInt ≤ pp.toInt := by
                  clear hmu
                  have k_199 : (0 : Int32).toInt = 0 := by decide
                  have q_200 := i_ne c_96
                  have q_201 := i_ne c_114
                  have k_202 : (44 : Int32).toInt = 44 := by decide
                  have q_203 := i_ne c_126
                  have k_204 : (59 : Int32).toInt = 59 := by decide
                  have q_205 := i_ne c_142
                  try generalize Int32.toInt (tp pp.toNatClampNeg) = z0 at *
                  try generalize Int32.toInt dcz = z1 at *
                  try generalize Int32.toInt (44 : Int32) = z2 at *
                  try generalize Int32.toInt (59 : Int32) = z3 at *
                  try generalize Int32.toInt mo = z4 at *
                  try generalize Int32.toInt nn = z5 at *
                  try generalize Int32.toInt pp = z6 at *
                  try generalize Int32.toInt (0 : Int32) = z7 at *
                  omega
                have v_206 : pp.toInt = pp.toInt → (pp.toInt < nn.toInt ∧ (tp pp.toNatClampNeg).toInt ≠ 44 ∧ (tp pp.toNatClampNeg).toInt ≠ 59) := by
                  clear hmu
                  have k_207 : (0 : Int32).toInt = 0 := by decide
                  have q_208 := i_ne c_96
                  have q_209 := i_ne c_114
                  have k_210 : (44 : Int32).toInt = 44 := by decide
                  have q_211 := i_ne c_126
                  have k_212 : (59 : Int32).toInt = 59 := by decide
                  have q_213 := i_ne c_142
                  try generalize Int32.toInt (tp pp.toNatClampNeg) = z0 at *
                  try generalize Int32.toInt dcz = z1 at *
                  try generalize Int32.toInt (44 : Int32) = z2 at *
                  try generalize Int32.toInt (59 : Int32) = z3 at *
                  try generalize Int32.toInt mo = z4 at *
                  try generalize Int32.toInt nn = z5 at *
                  try generalize Int32.toInt pp = z6 at *
                  try generalize Int32.toInt (0 : Int32) = z7 at *
                  omega
                have v_214 : (pp.toInt = pp.toInt → 8 * (nn.toInt - pp.toInt) + 5 < ((n : Nat) : Int)) ∧ (pp.toInt < pp.toInt → 8 * (nn.toInt - pp.toInt) + 12 < ((n : Nat) : Int)) := by
                  have k_215 : (0 : Int32).toInt = 0 := by decide
                  have q_216 := i_ne c_96
                  have q_217 := i_ne c_114
                  have k_218 : (44 : Int32).toInt = 44 := by decide
                  have q_219 := i_ne c_126
                  have k_220 : (59 : Int32).toInt = 59 := by decide
                  have q_221 := i_ne c_142
                  try generalize Int32.toInt (tp pp.toNatClampNeg) = z0 at *
                  try generalize Int32.toInt dcz = z1 at *
                  try generalize Int32.toInt (44 : Int32) = z2 at *
                  try generalize Int32.toInt (59 : Int32) = z3 at *
                  try generalize Int32.toInt mo = z4 at *
                  try generalize Int32.toInt nn = z5 at *
                  try generalize Int32.toInt pp = z6 at *
                  try generalize Int32.toInt (0 : Int32) = z7 at *
                  omega
                exact ih_135 (pp) (0) (pp) (dcz) (drz) (foz) (faz) (0) (nuz) (laz) _ _ ls hR v_150 v_158 v_166 v_174 v_182 v_190 v_198 v_206 v_214 hP hD hS (lv_sub hl [1, 2, 3, 0] rfl)
              · rw [if_pos c_142] at hR
                refine lv_aload_n hx hb dX9_readAll_120 rfl (lv_at hl 0 rfl) ?_
                refine lv_iconst (v := 3) hx hb dX9_readAll_121 (by decide) ?_
                refine lv_iload_n hx hb dX9_readAll_122 rfl (lv_at hl 2 rfl) ?_
                have hPc := hP.sub (ws' := [(h0, .inr (9, [.int th, .ref a0, .ref a1, .ref a2, .int dcz, .ref a3, .int tl, .ref a4, .int xl, .int foz, .int faz, .ref a5, .int mnz, .ref a6, .int ft, .ref a7, .int wl]))]) [0] rfl
                have hDc := hD.sub (ws' := [(h0, .inr (9, [.int th, .ref a0, .ref a1, .ref a2, .int dcz, .ref a3, .int tl, .ref a4, .int xl, .int foz, .int faz, .ref a5, .int mnz, .ref a6, .int ft, .ref a7, .int wl]))]) [0] (by decide) rfl
                have hFc := va_free (wc := [(h0, .inr (9, [.int th, .ref a0, .ref a1, .ref a2, .int dcz, .ref a3, .int tl, .ref a4, .int xl, .int foz, .int faz, .ref a5, .int mnz, .ref a6, .int ft, .ref a7, .int wl]))]) hD hS hA [0] rfl
                refine va_calli (va_runV (As := [.int 3, .int pp]) (rest := []) ⟨hx, hb, hml, hown, hts⟩ (c_X9_fails l dC dI cB cC cI cJ H.size h0 a0 a1 a2 a3 a4 a5 a6 a7 th dcz tl xl foz faz mnz ft wl 3 pp ) (cwV 2 hts gX9_readAll_X9_fails rfl rfl rfl (by decide +kernel) ⟨(Nat.le_of_ble_eq_true rfl), (Nat.le_of_ble_eq_true rfl)⟩) ⟨cP_blind, va_recv hG.1 hPc (ci := 9) (q0 := 0) rfl rfl, cP_pre hPc hG hDc⟩ rfl rfl hl.1 rfl (lv_room (Nat.le_of_ble_eq_true rfl)) dX9_readAll_123 ⟨Nat.le_of_ble_eq_true rfl, Nat.le_of_ble_eq_true rfl⟩) hS (fun q _ h => hFc q h) hFc (fun r_222v u t H1 locs ht hvm hw hB hz1 hk1 hS => ?_)
                obtain ⟨hP1, hD1⟩ := hB
                rw [ht] at hP1
                generalize hr_222 : fX9_fails th dcz tl xl foz faz mnz ft wl 3 pp = r_222 at hP1 hD1 hw
                obtain ⟨hw, er_222_0⟩ := hw
                rw [bnd_eq hr_222] at hR
                subst hw
                obtain ⟨hP, hD⟩ := va_join (wr := [(a2, .inl (cI, 1800, .inl drz)), (a3, .inl (cB, 3000, .inl tp)), (a5, .inl (cJ, 6, .inr (.inl nuz))), (a6, .inl (cJ, 6, .inr (.inl laz)))]) (w1 := [(h0, .inr (9, [.int th, .ref a0, .ref a1, .ref a2, .int dcz, .ref a3, .int tl, .ref a4, .int xl, .int r_222.2.1, .int r_222.2.2, .ref a5, .int mnz, .ref a6, .int ft, .ref a7, .int wl]))]) hP hD [0] [1, 2, 3, 4] rfl rfl (by decide) (by decide) hk1 hFc hP1 hD1
                generalize H1 = H at hP hS ⊢
                have hP := hP.sub (ws' := [(h0, .inr (9, [.int th, .ref a0, .ref a1, .ref a2, .int dcz, .ref a3, .int tl, .ref a4, .int xl, .int r_222.2.1, .int r_222.2.2, .ref a5, .int mnz, .ref a6, .int ft, .ref a7, .int wl])), (a2, .inl (cI, 1800, .inl drz)), (a3, .inl (cB, 3000, .inl tp)), (a5, .inl (cJ, 6, .inr (.inl nuz))), (a6, .inl (cJ, 6, .inr (.inl laz)))]) [4, 0, 1, 2, 3] rfl
                have hD := hD.sub (ws' := [(h0, .inr (9, [.int th, .ref a0, .ref a1, .ref a2, .int dcz, .ref a3, .int tl, .ref a4, .int xl, .int r_222.2.1, .int r_222.2.2, .ref a5, .int mnz, .ref a6, .int ft, .ref a7, .int wl])), (a2, .inl (cI, 1800, .inl drz)), (a3, .inl (cB, 3000, .inl tp)), (a5, .inl (cJ, 6, .inr (.inl nuz))), (a6, .inl (cJ, 6, .inr (.inl laz)))]) [4, 0, 1, 2, 3] (by decide) rfl
                have e_223 : 0 ≤ (dcz : Int32).toInt ∧ (dcz : Int32).toInt ≤ 300 := by
                  clear hmu
                  have k_224 : (0 : Int32).toInt = 0 := by decide
                  have q_225 := i_ne c_96
                  have q_226 := i_ne c_114
                  have k_227 : (44 : Int32).toInt = 44 := by decide
                  have q_228 := i_ne c_126
                  have k_229 : (59 : Int32).toInt = 59 := by decide
                  have q_230 := i_eq c_142
                  try generalize Int32.toInt (tp pp.toNatClampNeg) = z0 at *
                  try generalize Int32.toInt dcz = z1 at *
                  try generalize Int32.toInt (44 : Int32) = z2 at *
                  try generalize Int32.toInt (59 : Int32) = z3 at *
                  try generalize Int32.toInt mo = z4 at *
                  try generalize Int32.toInt nn = z5 at *
                  try generalize Int32.toInt pp = z6 at *
                  try generalize Int32.toInt (0 : Int32) = z7 at *
                  omega
                subst hR
                exact W.zret (v := r_222.1) hx hb hr (narz (by assumption)) (fun t ht hW => ⟨⟨r_222.1, (), rfl, ⟨rfl, e_223⟩, by rw [ht]; exact hP, hD⟩, hS.F ht⟩) hS.2.2 dX9_readAll_126
      · intro pp mo fs dcz drz foz faz mnz nuz laz H locs ls hR hp0 hp1 hd0 hd1 hf hm0 hm1 hch hmu hP hD hS hl
        rw [fX9_readAll_A] at hR
        rw [if_neg (by decide), if_neg (by decide)] at hR
        refine lv_iload_n hx hb dX9_readAll_135 rfl (lv_at hl 2 rfl) ?_
        refine lv_iload_n hx hb dX9_readAll_136 rfl (lv_at hl 1 rfl) ?_
        refine lv_icmp_ge (tgt := 175) hx hb dX9_readAll_137 (by decide) (fun c_231 => ?_) (fun c_231 => ?_)
        · rw [if_pos c_231] at hR
          refine lv_aload_n hx hb dX9_readAll_175 rfl (lv_at hl 0 rfl) ?_
          refine lv_iload hx hb dX9_readAll_176 (lv_at hl 3 rfl) ?_
          have p_232 : 0 ≤ dcz.toInt := by
            first | exact hd0 | assumption
          have p_233 : dcz.toInt ≤ 300 := by
            first | exact hd1 | assumption
          have hPc := hP.sub (ws' := [(h0, .inr (9, [.int th, .ref a0, .ref a1, .ref a2, .int dcz, .ref a3, .int tl, .ref a4, .int xl, .int foz, .int faz, .ref a5, .int mnz, .ref a6, .int ft, .ref a7, .int wl])), (a2, .inl (cI, 1800, .inl drz)), (a5, .inl (cJ, 6, .inr (.inl nuz))), (a6, .inl (cJ, 6, .inr (.inl laz)))]) [0, 1, 3, 4] rfl
          have hDc := hD.sub (ws' := [(h0, .inr (9, [.int th, .ref a0, .ref a1, .ref a2, .int dcz, .ref a3, .int tl, .ref a4, .int xl, .int foz, .int faz, .ref a5, .int mnz, .ref a6, .int ft, .ref a7, .int wl])), (a2, .inl (cI, 1800, .inl drz)), (a5, .inl (cJ, 6, .inr (.inl nuz))), (a6, .inl (cJ, 6, .inr (.inl laz)))]) [0, 1, 3, 4] (by decide) rfl
          have hFc := va_free (wc := [(h0, .inr (9, [.int th, .ref a0, .ref a1, .ref a2, .int dcz, .ref a3, .int tl, .ref a4, .int xl, .int foz, .int faz, .ref a5, .int mnz, .ref a6, .int ft, .ref a7, .int wl])), (a2, .inl (cI, 1800, .inl drz)), (a5, .inl (cJ, 6, .inr (.inl nuz))), (a6, .inl (cJ, 6, .inr (.inl laz)))]) hD hS hA [0, 1, 3, 4] rfl
          refine va_calli (va_runV (As := [.int fs]) (rest := []) ⟨hx, hb, hml, hown, hts⟩ (c_X9_segment l dC dI cB cC cI cJ H.size h0 a0 a1 a2 a3 a4 a5 a6 a7 th dcz tl xl foz faz mnz ft wl drz nuz laz fs p_232 p_233) (cwV 1 hts gX9_readAll_X9_segment rfl rfl rfl (by decide +kernel) ⟨(Nat.le_of_ble_eq_true rfl), (Nat.le_of_ble_eq_true rfl)⟩) ⟨cP_blind, va_recv hG.1 hPc (ci := 9) (q0 := 0) rfl rfl, cP_pre hPc hG hDc⟩ rfl rfl hl.1 rfl (lv_room (Nat.le_of_ble_eq_true rfl)) dX9_readAll_178 ⟨Nat.le_of_ble_eq_true rfl, Nat.le_of_ble_eq_true rfl⟩) hS (fun q _ h => hFc q h) hFc (fun r_234v u t H1 locs ht hvm hw hB hz1 hk1 hS => ?_)
          obtain ⟨hP1, hD1⟩ := hB
          rw [ht] at hP1
          generalize hr_234 : fX9_segment th dcz tl xl foz faz mnz ft wl drz nuz laz fs = r_234 at hP1 hD1 hw
          obtain ⟨hw, er_234_0⟩ := hw
          rw [bnd_eq hr_234] at hR
          subst hw
          obtain ⟨hP, hD⟩ := va_join (wr := [(a3, .inl (cB, 3000, .inl tp))]) (w1 := [(h0, .inr (9, [.int th, .ref a0, .ref a1, .ref a2, .int r_234.2.1, .ref a3, .int tl, .ref a4, .int xl, .int r_234.2.2.1, .int r_234.2.2.2.1, .ref a5, .int mnz, .ref a6, .int ft, .ref a7, .int wl])), (a2, .inl (cI, 1800, .inl r_234.2.2.2.2.1)), (a5, .inl (cJ, 6, .inr (.inl nuz))), (a6, .inl (cJ, 6, .inr (.inl r_234.2.2.2.2.2)))]) hP hD [0, 1, 3, 4] [2] rfl rfl (by decide) (by decide) hk1 hFc hP1 hD1
          generalize H1 = H at hP hS ⊢
          have hP := hP.sub (ws' := [(h0, .inr (9, [.int th, .ref a0, .ref a1, .ref a2, .int r_234.2.1, .ref a3, .int tl, .ref a4, .int xl, .int r_234.2.2.1, .int r_234.2.2.2.1, .ref a5, .int mnz, .ref a6, .int ft, .ref a7, .int wl])), (a2, .inl (cI, 1800, .inl r_234.2.2.2.2.1)), (a3, .inl (cB, 3000, .inl tp)), (a5, .inl (cJ, 6, .inr (.inl nuz))), (a6, .inl (cJ, 6, .inr (.inl r_234.2.2.2.2.2)))]) [1, 2, 0, 3, 4] rfl
          have hD := hD.sub (ws' := [(h0, .inr (9, [.int th, .ref a0, .ref a1, .ref a2, .int r_234.2.1, .ref a3, .int tl, .ref a4, .int xl, .int r_234.2.2.1, .int r_234.2.2.2.1, .ref a5, .int mnz, .ref a6, .int ft, .ref a7, .int wl])), (a2, .inl (cI, 1800, .inl r_234.2.2.2.2.1)), (a3, .inl (cB, 3000, .inl tp)), (a5, .inl (cJ, 6, .inr (.inl nuz))), (a6, .inl (cJ, 6, .inr (.inl r_234.2.2.2.2.2)))]) [1, 2, 0, 3, 4] (by decide) rfl
          refine lv_if_ne (tgt := 186) hx hb dX9_readAll_181 (by decide) (fun c_235 => ?_) (fun c_235 => ?_)
          · rw [if_neg c_235] at hR
            refine lv_iload_n hx hb dX9_readAll_186 rfl (lv_at hl 2 rfl) ?_
            refine lv_iload_n hx hb dX9_readAll_187 rfl (lv_at hl 1 rfl) ?_
            refine lv_icmp_ge (tgt := 206) hx hb dX9_readAll_188 (by decide) (fun c_236 => ?_) (fun c_236 => ?_)
            · refine lv_iconst (v := 0) hx hb dX9_readAll_206 (by decide) ?_
              refine lv_istore_n (lv' := [(3, .int 0), (0, .ref h0), (1, .int nn), (2, .int pp), (4, .int fs)]) hx hb dX9_readAll_207 rfl hl (by decide) rfl (fun ls hl => ?_)
              refine lv_iload_n hx hb dX9_readAll_208 rfl (lv_at hl 0 rfl) ?_
              refine lv_if_eq (tgt := 215) hx hb dX9_readAll_209 (by decide) (fun c_237 => ?_) (fun c_237 => ?_)
              · refine lv_goto (tgt := 89) hx hb dX9_readAll_215 (by decide) ?_
                have v_243 : 0 ≤ pp.toInt := by
                  clear hmu
                  have q_244 := i_le c_231
                  have k_245 : (0 : Int32).toInt = 0 := by decide
                  have q_246 := i_ne c_235
                  have q_247 := i_le c_236
                  have q_248 := i_eq c_237
                  try generalize Int32.toInt r_234.2.1 = z0 at *
                  try generalize Int32.toInt r_234.1 = z1 at *
                  try generalize Int32.toInt dcz = z2 at *
                  try generalize Int32.toInt mnz = z3 at *
                  try generalize Int32.toInt fs = z4 at *
                  try generalize Int32.toInt nn = z5 at *
                  try generalize Int32.toInt pp = z6 at *
                  try generalize Int32.toInt (0 : Int32) = z7 at *
                  omega
                have v_249 : pp.toInt ≤ nn.toInt := by
                  clear hmu
                  have q_250 := i_le c_231
                  have k_251 : (0 : Int32).toInt = 0 := by decide
                  have q_252 := i_ne c_235
                  have q_253 := i_le c_236
                  have q_254 := i_eq c_237
                  try generalize Int32.toInt r_234.2.1 = z0 at *
                  try generalize Int32.toInt r_234.1 = z1 at *
                  try generalize Int32.toInt dcz = z2 at *
                  try generalize Int32.toInt mnz = z3 at *
                  try generalize Int32.toInt fs = z4 at *
                  try generalize Int32.toInt nn = z5 at *
                  try generalize Int32.toInt pp = z6 at *
                  try generalize Int32.toInt (0 : Int32) = z7 at *
                  omega
                have v_255 : 0 ≤ r_234.2.1.toInt := by
                  clear hmu
                  have q_256 := i_le c_231
                  have k_257 : (0 : Int32).toInt = 0 := by decide
                  have q_258 := i_ne c_235
                  have q_259 := i_le c_236
                  have q_260 := i_eq c_237
                  try generalize Int32.toInt r_234.2.1 = z0 at *
                  try generalize Int32.toInt r_234.1 = z1 at *
                  try generalize Int32.toInt dcz = z2 at *
                  try generalize Int32.toInt mnz = z3 at *
                  try generalize Int32.toInt fs = z4 at *
                  try generalize Int32.toInt nn = z5 at *
                  try generalize Int32.toInt pp = z6 at *
                  try generalize Int32.toInt (0 : Int32) = z7 at *
                  omega
                have v_261 : r_234.2.1.toInt ≤ 300 := by
                  clear hmu
                  have q_262 := i_le c_231
                  have k_263 : (0 : Int32).toInt = 0 := by decide
                  have q_264 := i_ne c_235
                  have q_265 := i_le c_236
                  have q_266 := i_eq c_237
                  try generalize Int32.toInt r_234.2.1 = z0 at *
                  try generalize Int32.toInt r_234.1 = z1 at *
                  try generalize Int32.toInt dcz = z2 at *
                  try generalize Int32.toInt mnz = z3 at *
                  try generalize Int32.toInt fs = z4 at *
                  try generalize Int32.toInt nn = z5 at *
                  try generalize Int32.toInt pp = z6 at *
                  try generalize Int32.toInt (0 : Int32) = z7 at *
                  omega
                have v_267 : ((0 : Int32).toInt = 0 → 8 * (nn.toInt - pp.toInt) + 8 < ((n : Nat) : Int)) ∧ ((0 : Int32).toInt ≠ 0 → 8 * (nn.toInt - pp.toInt) + 6 < ((n : Nat) : Int)) ∧ 0 < ((n : Nat) : Int) := by
                  have q_268 := i_le c_231
                  have k_269 : (0 : Int32).toInt = 0 := by decide
                  have q_270 := i_ne c_235
                  have q_271 := i_le c_236
                  have q_272 := i_eq c_237
                  try generalize Int32.toInt r_234.2.1 = z0 at *
                  try generalize Int32.toInt r_234.1 = z1 at *
                  try generalize Int32.toInt dcz = z2 at *
                  try generalize Int32.toInt mnz = z3 at *
                  try generalize Int32.toInt fs = z4 at *
                  try generalize Int32.toInt nn = z5 at *
                  try generalize Int32.toInt pp = z6 at *
                  try generalize Int32.toInt (0 : Int32) = z7 at *
                  omega
                exact ih_89 (pp) (0) (0) (r_234.2.1) (r_234.2.2.2.2.1) (r_234.2.2.1) (r_234.2.2.2.1) (mnz) (nuz) (r_234.2.2.2.2.2) _ _ ls hR v_243 v_249 v_255 v_261 v_267 hP hD hS (lv_sub hl [1, 2, 3, 0] rfl)
              · exact absurd (by decide) c_237
            · exact absurd c_231 c_236
          · rw [if_pos c_235] at hR
            refine lv_iconst (v := 0) hx hb dX9_readAll_184 (by decide) ?_
            have e_273 : 0 ≤ (r_234.2.1 : Int32).toInt ∧ (r_234.2.1 : Int32).toInt ≤ 300 := by
              clear hmu
              have q_274 := i_le c_231
              have k_275 : (0 : Int32).toInt = 0 := by decide
              have q_276 := i_eq c_235
              try generalize Int32.toInt r_234.2.1 = z0 at *
              try generalize Int32.toInt r_234.1 = z1 at *
              try generalize Int32.toInt dcz = z2 at *
              try generalize Int32.toInt mnz = z3 at *
              try generalize Int32.toInt fs = z4 at *
              try generalize Int32.toInt nn = z5 at *
              try generalize Int32.toInt pp = z6 at *
              try generalize Int32.toInt (0 : Int32) = z7 at *
              omega
            subst hR
            exact W.zret (v := 0) hx hb hr rfl (fun t ht hW => ⟨⟨0, (), rfl, ⟨rfl, e_273⟩, by rw [ht]; exact hP, hD⟩, hS.F ht⟩) hS.2.2 dX9_readAll_185
        · rw [if_neg c_231] at hR
          refine lv_aload_n hx hb dX9_readAll_140 rfl (lv_at hl 0 rfl) ?_
          refine va_get (D := (dC, dI)) (ci := 9) (v := .ref a3) (C := RX9) (T := TX9) (N := 17) hx hb hts inc_X9_readAll_9 hown hG.1 hP 0 rfl rfl 5 (by decide) (hts (.fieldLink RX9 26 "MappingDeskModel" "tape" "[B") (by decide +kernel)) (fun _ h9 => h9) rfl dX9_readAll_141 ?_
          refine lv_iload_n hx hb dX9_readAll_144 rfl (lv_at hl 2 rfl) ?_
          have b_277 : vp_in pp 3000 := by
            clear hmu
            have q_278 := i_nle c_231
            refine vin ?_ ?_
            all_goals (try generalize Int32.toInt dcz = z0 at *; try generalize Int32.toInt mnz = z1 at *; try generalize Int32.toInt fs = z2 at *; try generalize Int32.toInt nn = z3 at *; try generalize Int32.toInt pp = z4 at *; omega)
          refine va_bald hx hb hG.1 hP 2 0 rfl rfl b_277 dX9_readAll_145 ?_
          refine lv_bipush (v := 44) hx hb dX9_readAll_146 (by decide) ?_
          refine lv_icmp_eq (tgt := 175) hx hb dX9_readAll_148 (by decide) (fun c_281 => ?_) (fun c_281 => ?_)
          · rw [if_pos c_281] at hR
            refine lv_aload_n hx hb dX9_readAll_175 rfl (lv_at hl 0 rfl) ?_
            refine lv_iload hx hb dX9_readAll_176 (lv_at hl 3 rfl) ?_
            have p_282 : 0 ≤ dcz.toInt := by
              first | exact hd0 | assumption
            have p_283 : dcz.toInt ≤ 300 := by
              first | exact hd1 | assumption
            have hPc := hP.sub (ws' := [(h0, .inr (9, [.int th, .ref a0, .ref a1, .ref a2, .int dcz, .ref a3, .int tl, .ref a4, .int xl, .int foz, .int faz, .ref a5, .int mnz, .ref a6, .int ft, .ref a7, .int wl])), (a2, .inl (cI, 1800, .inl drz)), (a5, .inl (cJ, 6, .inr (.inl nuz))), (a6, .inl (cJ, 6, .inr (.inl laz)))]) [0, 1, 3, 4] rfl
            have hDc := hD.sub (ws' := [(h0, .inr (9, [.int th, .ref a0, .ref a1, .ref a2, .int dcz, .ref a3, .int tl, .ref a4, .int xl, .int foz, .int faz, .ref a5, .int mnz, .ref a6, .int ft, .ref a7, .int wl])), (a2, .inl (cI, 1800, .inl drz)), (a5, .inl (cJ, 6, .inr (.inl nuz))), (a6, .inl (cJ, 6, .inr (.inl laz)))]) [0, 1, 3, 4] (by decide) rfl
            have hFc := va_free (wc := [(h0, .inr (9, [.int th, .ref a0, .ref a1, .ref a2, .int dcz, .ref a3, .int tl, .ref a4, .int xl, .int foz, .int faz, .ref a5, .int mnz, .ref a6, .int ft, .ref a7, .int wl])), (a2, .inl (cI, 1800, .inl drz)), (a5, .inl (cJ, 6, .inr (.inl nuz))), (a6, .inl (cJ, 6, .inr (.inl laz)))]) hD hS hA [0, 1, 3, 4] rfl
            refine va_calli (va_runV (As := [.int fs]) (rest := []) ⟨hx, hb, hml, hown, hts⟩ (c_X9_segment l dC dI cB cC cI cJ H.size h0 a0 a1 a2 a3 a4 a5 a6 a7 th dcz tl xl foz faz mnz ft wl drz nuz laz fs p_282 p_283) (cwV 1 hts gX9_readAll_X9_segment rfl rfl rfl (by decide +kernel) ⟨(Nat.le_of_ble_eq_true rfl), (Nat.le_of_ble_eq_true rfl)⟩) ⟨cP_blind, va_recv hG.1 hPc (ci := 9) (q0 := 0) rfl rfl, cP_pre hPc hG hDc⟩ rfl rfl hl.1 rfl (lv_room (Nat.le_of_ble_eq_true rfl)) dX9_readAll_178 ⟨Nat.le_of_ble_eq_true rfl, Nat.le_of_ble_eq_true rfl⟩) hS (fun q _ h => hFc q h) hFc (fun r_284v u t H1 locs ht hvm hw hB hz1 hk1 hS => ?_)
            obtain ⟨hP1, hD1⟩ := hB
            rw [ht] at hP1
            generalize hr_284 : fX9_segment th dcz tl xl foz faz mnz ft wl drz nuz laz fs = r_284 at hP1 hD1 hw
            obtain ⟨hw, er_284_0⟩ := hw
            rw [bnd_eq hr_284] at hR
            subst hw
            obtain ⟨hP, hD⟩ := va_join (wr := [(a3, .inl (cB, 3000, .inl tp))]) (w1 := [(h0, .inr (9, [.int th, .ref a0, .ref a1, .ref a2, .int r_284.2.1, .ref a3, .int tl, .ref a4, .int xl, .int r_284.2.2.1, .int r_284.2.2.2.1, .ref a5, .int mnz, .ref a6, .int ft, .ref a7, .int wl])), (a2, .inl (cI, 1800, .inl r_284.2.2.2.2.1)), (a5, .inl (cJ, 6, .inr (.inl nuz))), (a6, .inl (cJ, 6, .inr (.inl r_284.2.2.2.2.2)))]) hP hD [0, 1, 3, 4] [2] rfl rfl (by decide) (by decide) hk1 hFc hP1 hD1
            generalize H1 = H at hP hS ⊢
            have hP := hP.sub (ws' := [(h0, .inr (9, [.int th, .ref a0, .ref a1, .ref a2, .int r_284.2.1, .ref a3, .int tl, .ref a4, .int xl, .int r_284.2.2.1, .int r_284.2.2.2.1, .ref a5, .int mnz, .ref a6, .int ft, .ref a7, .int wl])), (a2, .inl (cI, 1800, .inl r_284.2.2.2.2.1)), (a3, .inl (cB, 3000, .inl tp)), (a5, .inl (cJ, 6, .inr (.inl nuz))), (a6, .inl (cJ, 6, .inr (.inl r_284.2.2.2.2.2)))]) [1, 2, 0, 3, 4] rfl
            have hD := hD.sub (ws' := [(h0, .inr (9, [.int th, .ref a0, .ref a1, .ref a2, .int r_284.2.1, .ref a3, .int tl, .ref a4, .int xl, .int r_284.2.2.1, .int r_284.2.2.2.1, .ref a5, .int mnz, .ref a6, .int ft, .ref a7, .int wl])), (a2, .inl (cI, 1800, .inl r_284.2.2.2.2.1)), (a3, .inl (cB, 3000, .inl tp)), (a5, .inl (cJ, 6, .inr (.inl nuz))), (a6, .inl (cJ, 6, .inr (.inl r_284.2.2.2.2.2)))]) [1, 2, 0, 3, 4] (by decide) rfl
            refine lv_if_ne (tgt := 186) hx hb dX9_readAll_181 (by decide) (fun c_285 => ?_) (fun c_285 => ?_)
            · rw [if_neg c_285] at hR
              refine lv_iload_n hx hb dX9_readAll_186 rfl (lv_at hl 2 rfl) ?_
              refine lv_iload_n hx hb dX9_readAll_187 rfl (lv_at hl 1 rfl) ?_
              refine lv_icmp_ge (tgt := 206) hx hb dX9_readAll_188 (by decide) (fun c_286 => ?_) (fun c_286 => ?_)
              · exact absurd c_286 c_231
              · refine lv_aload_n hx hb dX9_readAll_191 rfl (lv_at hl 0 rfl) ?_
                refine va_get (D := (dC, dI)) (ci := 9) (v := .ref a3) (C := RX9) (T := TX9) (N := 17) hx hb hts inc_X9_readAll_9 hown hG.1 hP 0 rfl rfl 5 (by decide) (hts (.fieldLink RX9 26 "MappingDeskModel" "tape" "[B") (by decide +kernel)) (fun _ h9 => h9) rfl dX9_readAll_192 ?_
                refine lv_iload_n hx hb dX9_readAll_195 rfl (lv_at hl 2 rfl) ?_
                have b_287 : vp_in pp 3000 := by
                  clear hmu
                  have q_288 := i_nle c_231
                  have k_289 : (44 : Int32).toInt = 44 := by decide
                  have q_290 := i_eq c_281
                  have k_291 : (0 : Int32).toInt = 0 := by decide
                  have q_292 := i_ne c_285
                  have q_293 := i_nle c_286
                  refine vin ?_ ?_
                  all_goals (try generalize Int32.toInt (tp pp.toNatClampNeg) = z0 at *; try generalize Int32.toInt r_284.2.1 = z1 at *; try generalize Int32.toInt r_284.1 = z2 at *; try generalize Int32.toInt dcz = z3 at *; try generalize Int32.toInt mnz = z4 at *; try generalize Int32.toInt (44 : Int32) = z5 at *; try generalize Int32.toInt fs = z6 at *; try generalize Int32.toInt nn = z7 at *; try generalize Int32.toInt pp = z8 at *; try generalize Int32.toInt (0 : Int32) = z9 at *; omega)
                refine va_bald hx hb hG.1 hP 2 0 rfl rfl b_287 dX9_readAll_196 ?_
                refine lv_bipush (v := 44) hx hb dX9_readAll_197 (by decide) ?_
                refine lv_icmp_ne (tgt := 206) hx hb dX9_readAll_199 (by decide) (fun c_296 => ?_) (fun c_296 => ?_)
                · exact absurd c_281 c_296
                · refine lv_iconst (v := 1) hx hb dX9_readAll_202 (by decide) ?_
                  refine lv_goto (tgt := 207) hx hb dX9_readAll_203 (by decide) ?_
                  refine lv_istore_n (lv' := [(3, .int 1), (0, .ref h0), (1, .int nn), (2, .int pp), (4, .int fs)]) hx hb dX9_readAll_207 rfl hl (by decide) rfl (fun ls hl => ?_)
                  refine lv_iload_n hx hb dX9_readAll_208 rfl (lv_at hl 0 rfl) ?_
                  refine lv_if_eq (tgt := 215) hx hb dX9_readAll_209 (by decide) (fun c_297 => ?_) (fun c_297 => ?_)
                  · exact absurd c_297 (by decide)
                  · refine lv_iinc (v := (pp + 1)) (lv' := [(2, .int (pp + 1)), (3, .int 1), (0, .ref h0), (1, .int nn), (4, .int fs)]) hx hb dX9_readAll_212 hl (k := 3) rfl rfl (by decide) rfl (fun ls hl => ?_)
                    refine lv_goto (tgt := 89) hx hb dX9_readAll_215 (by decide) ?_
                    have v_307 : 0 ≤ ((pp + 1)).toInt := by
                      clear hmu
                      have q_308 := i_nle c_231
                      have k_309 : (44 : Int32).toInt = 44 := by decide
                      have q_310 := i_eq c_281
                      have k_311 : (0 : Int32).toInt = 0 := by decide
                      have q_312 := i_ne c_285
                      have q_313 := i_nle c_286
                      have q_314 := i_eq c_296
                      have k_315 : (1 : Int32).toInt = 1 := by decide
                      have q_316 := i_ne c_297
                      have t_317 := ti_add (a := pp) (b := 1) (by omega) (by omega)
                      try generalize Int32.toInt (tp pp.toNatClampNeg) = z0 at *
                      try generalize Int32.toInt r_284.2.1 = z1 at *
                      try generalize Int32.toInt (pp + 1) = z2 at *
                      try generalize Int32.toInt r_284.1 = z3 at *
                      try generalize Int32.toInt dcz = z4 at *
                      try generalize Int32.toInt mnz = z5 at *
                      try generalize Int32.toInt (44 : Int32) = z6 at *
                      try generalize Int32.toInt fs = z7 at *
                      try generalize Int32.toInt nn = z8 at *
                      try generalize Int32.toInt pp = z9 at *
                      try generalize Int32.toInt (0 : Int32) = z10 at *
                      try generalize Int32.toInt (1 : Int32) = z11 at *
                      omega
                    have v_318 : ((pp + 1)).toInt ≤ nn.toInt := by
                      clear hmu
                      have q_319 := i_nle c_231
                      have k_320 : (44 : Int32).toInt = 44 := by decide
                      have q_321 := i_eq c_281
                      have k_322 : (0 : Int32).toInt = 0 := by decide
                      have q_323 := i_ne c_285
                      have q_324 := i_nle c_286
                      have q_325 := i_eq c_296
                      have k_326 : (1 : Int32).toInt = 1 := by decide
                      have q_327 := i_ne c_297
                      have t_328 := ti_add (a := pp) (b := 1) (by omega) (by omega)
                      try generalize Int32.toInt (tp pp.toNatClampNeg) = z0 at *
                      try generalize Int32.toInt r_284.2.1 = z1 at *
                      try generalize Int32.toInt (pp + 1) = z2 at *
                      try generalize Int32.toInt r_284.1 = z3 at *
                      try generalize Int32.toInt dcz = z4 at *
                      try generalize Int32.toInt mnz = z5 at *
                      try generalize Int32.toInt (44 : Int32) = z6 at *
                      try generalize Int32.toInt fs = z7 at *
                      try generalize Int32.toInt nn = z8 at *
                      try generalize Int32.toInt pp = z9 at *
                      try generalize Int32.toInt (0 : Int32) = z10 at *
                      try generalize Int32.toInt (1 : Int32) = z11 at *
                      omega
                    have v_329 : 0 ≤ r_284.2.1.toInt := by
                      clear hmu
                      have q_330 := i_nle c_231
                      have k_331 : (44 : Int32).toInt = 44 := by decide
                      have q_332 := i_eq c_281
                      have k_333 : (0 : Int32).toInt = 0 := by decide
                      have q_334 := i_ne c_285
                      have q_335 := i_nle c_286
                      have q_336 := i_eq c_296
                      have k_337 : (1 : Int32).toInt = 1 := by decide
                      have q_338 := i_ne c_297
                      try generalize Int32.toInt (tp pp.toNatClampNeg) = z0 at *
                      try generalize Int32.toInt r_284.2.1 = z1 at *
                      try generalize Int32.toInt r_284.1 = z2 at *
                      try generalize Int32.toInt dcz = z3 at *
                      try generalize Int32.toInt mnz = z4 at *
                      try generalize Int32.toInt (44 : Int32) = z5 at *
                      try generalize Int32.toInt fs = z6 at *
                      try generalize Int32.toInt nn = z7 at *
                      try generalize Int32.toInt pp = z8 at *
                      try generalize Int32.toInt (0 : Int32) = z9 at *
                      try generalize Int32.toInt (1 : Int32) = z10 at *
                      omega
                    have v_339 : r_284.2.1.toInt ≤ 300 := by
                      clear hmu
                      have q_340 := i_nle c_231
                      have k_341 : (44 : Int32).toInt = 44 := by decide
                      have q_342 := i_eq c_281
                      have k_343 : (0 : Int32).toInt = 0 := by decide
                      have q_344 := i_ne c_285
                      have q_345 := i_nle c_286
                      have q_346 := i_eq c_296
                      have k_347 : (1 : Int32).toInt = 1 := by decide
                      have q_348 := i_ne c_297
                      try generalize Int32.toInt (tp pp.toNatClampNeg) = z0 at *
                      try generalize Int32.toInt r_284.2.1 = z1 at *
                      try generalize Int32.toInt r_284.1 = z2 at *
                      try generalize Int32.toInt dcz = z3 at *
                      try generalize Int32.toInt mnz = z4 at *
                      try generalize Int32.toInt (44 : Int32) = z5 at *
                      try generalize Int32.toInt fs = z6 at *
                      try generalize Int32.toInt nn = z7 at *
                      try generalize Int32.toInt pp = z8 at *
                      try generalize Int32.toInt (0 : Int32) = z9 at *
                      try generalize Int32.toInt (1 : Int32) = z10 at *
                      omega
                    have v_349 : ((1 : Int32).toInt = 0 → 8 * (nn.toInt - ((pp + 1)).toInt) + 8 < ((n : Nat) : Int)) ∧ ((1 : Int32).toInt ≠ 0 → 8 * (nn.toInt - ((pp + 1)).toInt) + 6 < ((n : Nat) : Int)) ∧ 0 < ((n : Nat) : Int) := by
                      have q_350 := i_nle c_231
                      have k_351 : (44 : Int32).toInt = 44 := by decide
                      have q_352 := i_eq c_281
                      have k_353 : (0 : Int32).toInt = 0 := by decide
                      have q_354 := i_ne c_285
                      have q_355 := i_nle c_286
                      have q_356 := i_eq c_296
                      have k_357 : (1 : Int32).toInt = 1 := by decide
                      have q_358 := i_ne c_297
                      have t_359 := ti_add (a := pp) (b := 1) (by omega) (by omega)
                      try generalize Int32.toInt (tp pp.toNatClampNeg) = z0 at *
                      try generalize Int32.toInt r_284.2.1 = z1 at *
                      try generalize Int32.toInt (pp + 1) = z2 at *
                      try generalize Int32.toInt r_284.1 = z3 at *
                      try generalize Int32.toInt dcz = z4 at *
                      try generalize Int32.toInt mnz = z5 at *
                      try generalize Int32.toInt (44 : Int32) = z6 at *
                      try generalize Int32.toInt fs = z7 at *
                      try generalize Int32.toInt nn = z8 at *
                      try generalize Int32.toInt pp = z9 at *
                      try generalize Int32.toInt (0 : Int32) = z10 at *
                      try generalize Int32.toInt (1 : Int32) = z11 at *
                      omega
                    exact ih_89 ((pp + 1)) (1) (0) (r_284.2.1) (r_284.2.2.2.2.1) (r_284.2.2.1) (r_284.2.2.2.1) (mnz) (nuz) (r_284.2.2.2.2.2) _ _ ls hR v_307 v_318 v_329 v_339 v_349 hP hD hS (lv_sub hl [2, 3, 0, 1] rfl)
            · rw [if_pos c_285] at hR
              refine lv_iconst (v := 0) hx hb dX9_readAll_184 (by decide) ?_
              have e_360 : 0 ≤ (r_284.2.1 : Int32).toInt ∧ (r_284.2.1 : Int32).toInt ≤ 300 := by
                clear hmu
                have q_361 := i_nle c_231
                have k_362 : (44 : Int32).toInt = 44 := by decide
                have q_363 := i_eq c_281
                have k_364 : (0 : Int32).toInt = 0 := by decide
                have q_365 := i_eq c_285
                try generalize Int32.toInt (tp pp.toNatClampNeg) = z0 at *
                try generalize Int32.toInt r_284.2.1 = z1 at *
                try generalize Int32.toInt r_284.1 = z2 at *
                try generalize Int32.toInt dcz = z3 at *
                try generalize Int32.toInt mnz = z4 at *
                try generalize Int32.toInt (44 : Int32) = z5 at *
                try generalize Int32.toInt fs = z6 at *
                try generalize Int32.toInt nn = z7 at *
                try generalize Int32.toInt pp = z8 at *
                try generalize Int32.toInt (0 : Int32) = z9 at *
                omega
              subst hR
              exact W.zret (v := 0) hx hb hr rfl (fun t ht hW => ⟨⟨0, (), rfl, ⟨rfl, e_360⟩, by rw [ht]; exact hP, hD⟩, hS.F ht⟩) hS.2.2 dX9_readAll_185
          · rw [if_neg c_281] at hR
            refine lv_aload_n hx hb dX9_readAll_151 rfl (lv_at hl 0 rfl) ?_
            refine va_get (D := (dC, dI)) (ci := 9) (v := .ref a3) (C := RX9) (T := TX9) (N := 17) hx hb hts inc_X9_readAll_9 hown hG.1 hP 0 rfl rfl 5 (by decide) (hts (.fieldLink RX9 26 "MappingDeskModel" "tape" "[B") (by decide +kernel)) (fun _ h9 => h9) rfl dX9_readAll_152 ?_
            refine lv_iload_n hx hb dX9_readAll_155 rfl (lv_at hl 2 rfl) ?_
            have b_366 : vp_in pp 3000 := by
              clear hmu
              have q_367 := i_nle c_231
              have k_368 : (44 : Int32).toInt = 44 := by decide
              have q_369 := i_ne c_281
              refine vin ?_ ?_
              all_goals (try generalize Int32.toInt (tp pp.toNatClampNeg) = z0 at *; try generalize Int32.toInt dcz = z1 at *; try generalize Int32.toInt mnz = z2 at *; try generalize Int32.toInt (44 : Int32) = z3 at *; try generalize Int32.toInt fs = z4 at *; try generalize Int32.toInt nn = z5 at *; try generalize Int32.toInt pp = z6 at *; omega)
            refine va_bald hx hb hG.1 hP 2 0 rfl rfl b_366 dX9_readAll_156 ?_
            refine lv_bipush (v := 59) hx hb dX9_readAll_157 (by decide) ?_
            refine lv_icmp_eq (tgt := 175) hx hb dX9_readAll_159 (by decide) (fun c_372 => ?_) (fun c_372 => ?_)
            · rw [if_pos c_372] at hR
              refine lv_aload_n hx hb dX9_readAll_175 rfl (lv_at hl 0 rfl) ?_
              refine lv_iload hx hb dX9_readAll_176 (lv_at hl 3 rfl) ?_
              have p_373 : 0 ≤ dcz.toInt := by
                first | exact hd0 | assumption
              have p_374 : dcz.toInt ≤ 300 := by
                first | exact hd1 | assumption
              have hPc := hP.sub (ws' := [(h0, .inr (9, [.int th, .ref a0, .ref a1, .ref a2, .int dcz, .ref a3, .int tl, .ref a4, .int xl, .int foz, .int faz, .ref a5, .int mnz, .ref a6, .int ft, .ref a7, .int wl])), (a2, .inl (cI, 1800, .inl drz)), (a5, .inl (cJ, 6, .inr (.inl nuz))), (a6, .inl (cJ, 6, .inr (.inl laz)))]) [0, 1, 3, 4] rfl
              have hDc := hD.sub (ws' := [(h0, .inr (9, [.int th, .ref a0, .ref a1, .ref a2, .int dcz, .ref a3, .int tl, .ref a4, .int xl, .int foz, .int faz, .ref a5, .int mnz, .ref a6, .int ft, .ref a7, .int wl])), (a2, .inl (cI, 1800, .inl drz)), (a5, .inl (cJ, 6, .inr (.inl nuz))), (a6, .inl (cJ, 6, .inr (.inl laz)))]) [0, 1, 3, 4] (by decide) rfl
              have hFc := va_free (wc := [(h0, .inr (9, [.int th, .ref a0, .ref a1, .ref a2, .int dcz, .ref a3, .int tl, .ref a4, .int xl, .int foz, .int faz, .ref a5, .int mnz, .ref a6, .int ft, .ref a7, .int wl])), (a2, .inl (cI, 1800, .inl drz)), (a5, .inl (cJ, 6, .inr (.inl nuz))), (a6, .inl (cJ, 6, .inr (.inl laz)))]) hD hS hA [0, 1, 3, 4] rfl
              refine va_calli (va_runV (As := [.int fs]) (rest := []) ⟨hx, hb, hml, hown, hts⟩ (c_X9_segment l dC dI cB cC cI cJ H.size h0 a0 a1 a2 a3 a4 a5 a6 a7 th dcz tl xl foz faz mnz ft wl drz nuz laz fs p_373 p_374) (cwV 1 hts gX9_readAll_X9_segment rfl rfl rfl (by decide +kernel) ⟨(Nat.le_of_ble_eq_true rfl), (Nat.le_of_ble_eq_true rfl)⟩) ⟨cP_blind, va_recv hG.1 hPc (ci := 9) (q0 := 0) rfl rfl, cP_pre hPc hG hDc⟩ rfl rfl hl.1 rfl (lv_room (Nat.le_of_ble_eq_true rfl)) dX9_readAll_178 ⟨Nat.le_of_ble_eq_true rfl, Nat.le_of_ble_eq_true rfl⟩) hS (fun q _ h => hFc q h) hFc (fun r_375v u t H1 locs ht hvm hw hB hz1 hk1 hS => ?_)
              obtain ⟨hP1, hD1⟩ := hB
              rw [ht] at hP1
              generalize hr_375 : fX9_segment th dcz tl xl foz faz mnz ft wl drz nuz laz fs = r_375 at hP1 hD1 hw
              obtain ⟨hw, er_375_0⟩ := hw
              rw [bnd_eq hr_375] at hR
              subst hw
              obtain ⟨hP, hD⟩ := va_join (wr := [(a3, .inl (cB, 3000, .inl tp))]) (w1 := [(h0, .inr (9, [.int th, .ref a0, .ref a1, .ref a2, .int r_375.2.1, .ref a3, .int tl, .ref a4, .int xl, .int r_375.2.2.1, .int r_375.2.2.2.1, .ref a5, .int mnz, .ref a6, .int ft, .ref a7, .int wl])), (a2, .inl (cI, 1800, .inl r_375.2.2.2.2.1)), (a5, .inl (cJ, 6, .inr (.inl nuz))), (a6, .inl (cJ, 6, .inr (.inl r_375.2.2.2.2.2)))]) hP hD [0, 1, 3, 4] [2] rfl rfl (by decide) (by decide) hk1 hFc hP1 hD1
              generalize H1 = H at hP hS ⊢
              have hP := hP.sub (ws' := [(h0, .inr (9, [.int th, .ref a0, .ref a1, .ref a2, .int r_375.2.1, .ref a3, .int tl, .ref a4, .int xl, .int r_375.2.2.1, .int r_375.2.2.2.1, .ref a5, .int mnz, .ref a6, .int ft, .ref a7, .int wl])), (a2, .inl (cI, 1800, .inl r_375.2.2.2.2.1)), (a3, .inl (cB, 3000, .inl tp)), (a5, .inl (cJ, 6, .inr (.inl nuz))), (a6, .inl (cJ, 6, .inr (.inl r_375.2.2.2.2.2)))]) [1, 2, 0, 3, 4] rfl
              have hD := hD.sub (ws' := [(h0, .inr (9, [.int th, .ref a0, .ref a1, .ref a2, .int r_375.2.1, .ref a3, .int tl, .ref a4, .int xl, .int r_375.2.2.1, .int r_375.2.2.2.1, .ref a5, .int mnz, .ref a6, .int ft, .ref a7, .int wl])), (a2, .inl (cI, 1800, .inl r_375.2.2.2.2.1)), (a3, .inl (cB, 3000, .inl tp)), (a5, .inl (cJ, 6, .inr (.inl nuz))), (a6, .inl (cJ, 6, .inr (.inl r_375.2.2.2.2.2)))]) [1, 2, 0, 3, 4] (by decide) rfl
              refine lv_if_ne (tgt := 186) hx hb dX9_readAll_181 (by decide) (fun c_376 => ?_) (fun c_376 => ?_)
              · rw [if_neg c_376] at hR
                refine lv_iload_n hx hb dX9_readAll_186 rfl (lv_at hl 2 rfl) ?_
                refine lv_iload_n hx hb dX9_readAll_187 rfl (lv_at hl 1 rfl) ?_
                refine lv_icmp_ge (tgt := 206) hx hb dX9_readAll_188 (by decide) (fun c_377 => ?_) (fun c_377 => ?_)
                · exact absurd c_377 c_231
                · refine lv_aload_n hx hb dX9_readAll_191 rfl (lv_at hl 0 rfl) ?_
                  refine va_get (D := (dC, dI)) (ci := 9) (v := .ref a3) (C := RX9) (T := TX9) (N := 17) hx hb hts inc_X9_readAll_9 hown hG.1 hP 0 rfl rfl 5 (by decide) (hts (.fieldLink RX9 26 "MappingDeskModel" "tape" "[B") (by decide +kernel)) (fun _ h9 => h9) rfl dX9_readAll_192 ?_
                  refine lv_iload_n hx hb dX9_readAll_195 rfl (lv_at hl 2 rfl) ?_
                  have b_378 : vp_in pp 3000 := by
                    clear hmu
                    have q_379 := i_nle c_231
                    have k_380 : (44 : Int32).toInt = 44 := by decide
                    have q_381 := i_ne c_281
                    have k_382 : (59 : Int32).toInt = 59 := by decide
                    have q_383 := i_eq c_372
                    have k_384 : (0 : Int32).toInt = 0 := by decide
                    have q_385 := i_ne c_376
                    have q_386 := i_nle c_377
                    refine vin ?_ ?_
                    all_goals (try generalize Int32.toInt (tp pp.toNatClampNeg) = z0 at *; try generalize Int32.toInt r_375.2.1 = z1 at *; try generalize Int32.toInt r_375.1 = z2 at *; try generalize Int32.toInt dcz = z3 at *; try generalize Int32.toInt mnz = z4 at *; try generalize Int32.toInt (44 : Int32) = z5 at *; try generalize Int32.toInt (59 : Int32) = z6 at *; try generalize Int32.toInt fs = z7 at *; try generalize Int32.toInt nn = z8 at *; try generalize Int32.toInt pp = z9 at *; try generalize Int32.toInt (0 : Int32) = z10 at *; omega)
                  refine va_bald hx hb hG.1 hP 2 0 rfl rfl b_378 dX9_readAll_196 ?_
                  refine lv_bipush (v := 44) hx hb dX9_readAll_197 (by decide) ?_
                  refine lv_icmp_ne (tgt := 206) hx hb dX9_readAll_199 (by decide) (fun c_389 => ?_) (fun c_389 => ?_)
                  · refine lv_iconst (v := 0) hx hb dX9_readAll_206 (by decide) ?_
                    refine lv_istore_n (lv' := [(3, .int 0), (0, .ref h0), (1, .int nn), (2, .int pp), (4, .int fs)]) hx hb dX9_readAll_207 rfl hl (by decide) rfl (fun ls hl => ?_)
                    refine lv_iload_n hx hb dX9_readAll_208 rfl (lv_at hl 0 rfl) ?_
                    refine lv_if_eq (tgt := 215) hx hb dX9_readAll_209 (by decide) (fun c_390 => ?_) (fun c_390 => ?_)
                    · refine lv_goto (tgt := 89) hx hb dX9_readAll_215 (by decide) ?_
                      have v_401 : 0 ≤ pp.toInt := by
                        clear hmu
                        have q_402 := i_nle c_231
                        have k_403 : (44 : Int32).toInt = 44 := by decide
                        have q_404 := i_ne c_281
                        have k_405 : (59 : Int32).toInt = 59 := by decide
                        have q_406 := i_eq c_372
                        have k_407 : (0 : Int32).toInt = 0 := by decide
                        have q_408 := i_ne c_376
                        have q_409 := i_nle c_377
                        have q_410 := i_ne c_389
                        have q_411 := i_eq c_390
                        try generalize Int32.toInt (tp pp.toNatClampNeg) = z0 at *
                        try generalize Int32.toInt r_375.2.1 = z1 at *
                        try generalize Int32.toInt r_375.1 = z2 at *
                        try generalize Int32.toInt dcz = z3 at *
                        try generalize Int32.toInt mnz = z4 at *
                        try generalize Int32.toInt (44 : Int32) = z5 at *
                        try generalize Int32.toInt (59 : Int32) = z6 at *
                        try generalize Int32.toInt fs = z7 at *
                        try generalize Int32.toInt nn = z8 at *
                        try generalize Int32.toInt pp = z9 at *
                        try generalize Int32.toInt (0 : Int32) = z10 at *
                        omega
                      have v_412 : pp.toInt ≤ nn.toInt := by
                        clear hmu
                        have q_413 := i_nle c_231
                        have k_414 : (44 : Int32).toInt = 44 := by decide
                        have q_415 := i_ne c_281
                        have k_416 : (59 : Int32).toInt = 59 := by decide
                        have q_417 := i_eq c_372
                        have k_418 : (0 : Int32).toInt = 0 := by decide
                        have q_419 := i_ne c_376
                        have q_420 := i_nle c_377
                        have q_421 := i_ne c_389
                        have q_422 := i_eq c_390
                        try generalize Int32.toInt (tp pp.toNatClampNeg) = z0 at *
                        try generalize Int32.toInt r_375.2.1 = z1 at *
                        try generalize Int32.toInt r_375.1 = z2 at *
                        try generalize Int32.toInt dcz = z3 at *
                        try generalize Int32.toInt mnz = z4 at *
                        try generalize Int32.toInt (44 : Int32) = z5 at *
                        try generalize Int32.toInt (59 : Int32) = z6 at *
                        try generalize Int32.toInt fs = z7 at *
                        try generalize Int32.toInt nn = z8 at *
                        try generalize Int32.toInt pp = z9 at *
                        try generalize Int32.toInt (0 : Int32) = z10 at *
                        omega
                      have v_423 : 0 ≤ r_375.2.1.toInt := by
                        clear hmu
                        have q_424 := i_nle c_231
                        have k_425 : (44 : Int32).toInt = 44 := by decide
                        have q_426 := i_ne c_281
                        have k_427 : (59 : Int32).toInt = 59 := by decide
                        have q_428 := i_eq c_372
                        have k_429 : (0 : Int32).toInt = 0 := by decide
                        have q_430 := i_ne c_376
                        have q_431 := i_nle c_377
                        have q_432 := i_ne c_389
                        have q_433 := i_eq c_390
                        try generalize Int32.toInt (tp pp.toNatClampNeg) = z0 at *
                        try generalize Int32.toInt r_375.2.1 = z1 at *
                        try generalize Int32.toInt r_375.1 = z2 at *
                        try generalize Int32.toInt dcz = z3 at *
                        try generalize Int32.toInt mnz = z4 at *
                        try generalize Int32.toInt (44 : Int32) = z5 at *
                        try generalize Int32.toInt (59 : Int32) = z6 at *
                        try generalize Int32.toInt fs = z7 at *
                        try generalize Int32.toInt nn = z8 at *
                        try generalize Int32.toInt pp = z9 at *
                        try generalize Int32.toInt (0 : Int32) = z10 at *
                        omega
                      have v_434 : r_375.2.1.toInt ≤ 300 := by
                        clear hmu
                        have q_435 := i_nle c_231
                        have k_436 : (44 : Int32).toInt = 44 := by decide
                        have q_437 := i_ne c_281
                        have k_438 : (59 : Int32).toInt = 59 := by decide
                        have q_439 := i_eq c_372
                        have k_440 : (0 : Int32).toInt = 0 := by decide
                        have q_441 := i_ne c_376
                        have q_442 := i_nle c_377
                        have q_443 := i_ne c_389
                        have q_444 := i_eq c_390
                        try generalize Int32.toInt (tp pp.toNatClampNeg) = z0 at *
                        try generalize Int32.toInt r_375.2.1 = z1 at *
                        try generalize Int32.toInt r_375.1 = z2 at *
                        try generalize Int32.toInt dcz = z3 at *
                        try generalize Int32.toInt mnz = z4 at *
                        try generalize Int32.toInt (44 : Int32) = z5 at *
                        try generalize Int32.toInt (59 : Int32) = z6 at *
                        try generalize Int32.toInt fs = z7 at *
                        try generalize Int32.toInt nn = z8 at *
                        try generalize Int32.toInt pp = z9 at *
                        try generalize Int32.toInt (0 : Int32) = z10 at *
                        omega
                      have v_445 : ((0 : Int32).toInt = 0 → 8 * (nn.toInt - pp.toInt) + 8 < ((n : Nat) : Int)) ∧ ((0 : Int32).toInt ≠ 0 → 8 * (nn.toInt - pp.toInt) + 6 < ((n : Nat) : Int)) ∧ 0 < ((n : Nat) : Int) := by
                        have q_446 := i_nle c_231
                        have k_447 : (44 : Int32).toInt = 44 := by decide
                        have q_448 := i_ne c_281
                        have k_449 : (59 : Int32).toInt = 59 := by decide
                        have q_450 := i_eq c_372
                        have k_451 : (0 : Int32).toInt = 0 := by decide
                        have q_452 := i_ne c_376
                        have q_453 := i_nle c_377
                        have q_454 := i_ne c_389
                        have q_455 := i_eq c_390
                        try generalize Int32.toInt (tp pp.toNatClampNeg) = z0 at *
                        try generalize Int32.toInt r_375.2.1 = z1 at *
                        try generalize Int32.toInt r_375.1 = z2 at *
                        try generalize Int32.toInt dcz = z3 at *
                        try generalize Int32.toInt mnz = z4 at *
                        try generalize Int32.toInt (44 : Int32) = z5 at *
                        try generalize Int32.toInt (59 : Int32) = z6 at *
                        try generalize Int32.toInt fs = z7 at *
                        try generalize Int32.toInt nn = z8 at *
                        try generalize Int32.toInt pp = z9 at *
                        try generalize Int32.toInt (0 : Int32) = z10 at *
                        omega
                      exact ih_89 (pp) (0) (0) (r_375.2.1) (r_375.2.2.2.2.1) (r_375.2.2.1) (r_375.2.2.2.1) (mnz) (nuz) (r_375.2.2.2.2.2) _ _ ls hR v_401 v_412 v_423 v_434 v_445 hP hD hS (lv_sub hl [1, 2, 3, 0] rfl)
                    · exact absurd (by decide) c_390
                  · exact absurd c_389 c_281
              · rw [if_pos c_376] at hR
                refine lv_iconst (v := 0) hx hb dX9_readAll_184 (by decide) ?_
                have e_456 : 0 ≤ (r_375.2.1 : Int32).toInt ∧ (r_375.2.1 : Int32).toInt ≤ 300 := by
                  clear hmu
                  have q_457 := i_nle c_231
                  have k_458 : (44 : Int32).toInt = 44 := by decide
                  have q_459 := i_ne c_281
                  have k_460 : (59 : Int32).toInt = 59 := by decide
                  have q_461 := i_eq c_372
                  have k_462 : (0 : Int32).toInt = 0 := by decide
                  have q_463 := i_eq c_376
                  try generalize Int32.toInt (tp pp.toNatClampNeg) = z0 at *
                  try generalize Int32.toInt r_375.2.1 = z1 at *
                  try generalize Int32.toInt r_375.1 = z2 at *
                  try generalize Int32.toInt dcz = z3 at *
                  try generalize Int32.toInt mnz = z4 at *
                  try generalize Int32.toInt (44 : Int32) = z5 at *
                  try generalize Int32.toInt (59 : Int32) = z6 at *
                  try generalize Int32.toInt fs = z7 at *
                  try generalize Int32.toInt nn = z8 at *
                  try generalize Int32.toInt pp = z9 at *
                  try generalize Int32.toInt (0 : Int32) = z10 at *
                  omega
                subst hR
                exact W.zret (v := 0) hx hb hr rfl (fun t ht hW => ⟨⟨0, (), rfl, ⟨rfl, e_456⟩, by rw [ht]; exact hP, hD⟩, hS.F ht⟩) hS.2.2 dX9_readAll_185
            · rw [if_neg c_372] at hR
              refine lv_aload_n hx hb dX9_readAll_162 rfl (lv_at hl 0 rfl) ?_
              refine lv_iload_n hx hb dX9_readAll_163 rfl (lv_at hl 2 rfl) ?_
              refine lv_iload_n hx hb dX9_readAll_164 rfl (lv_at hl 1 rfl) ?_
              have p_464 : 0 ≤ pp.toInt := by
                first | exact hp0 | assumption
              have p_465 : pp.toInt ≤ nn.toInt := by
                first | exact hp1 | assumption
              have p_466 : nn.toInt ≤ 3000 := by
                first | exact hn1 | assumption
              have p_467 : 0 ≤ mnz.toInt := by
                first | exact hm0 | assumption
              have p_468 : mnz.toInt ≤ 3000 := by
                clear hmu
                have q_469 := i_nle c_231
                have k_470 : (44 : Int32).toInt = 44 := by decide
                have q_471 := i_ne c_281
                have k_472 : (59 : Int32).toInt = 59 := by decide
                have q_473 := i_ne c_372
                try generalize Int32.toInt (tp pp.toNatClampNeg) = z0 at *
                try generalize Int32.toInt dcz = z1 at *
                try generalize Int32.toInt mnz = z2 at *
                try generalize Int32.toInt (44 : Int32) = z3 at *
                try generalize Int32.toInt (59 : Int32) = z4 at *
                try generalize Int32.toInt fs = z5 at *
                try generalize Int32.toInt nn = z6 at *
                try generalize Int32.toInt pp = z7 at *
                first | omega | exact ⟨by omega, by omega⟩
              have hPc := hP.sub (ws' := [(h0, .inr (9, [.int th, .ref a0, .ref a1, .ref a2, .int dcz, .ref a3, .int tl, .ref a4, .int xl, .int foz, .int faz, .ref a5, .int mnz, .ref a6, .int ft, .ref a7, .int wl])), (a3, .inl (cB, 3000, .inl tp)), (a5, .inl (cJ, 6, .inr (.inl nuz)))]) [0, 2, 3] rfl
              have hDc := hD.sub (ws' := [(h0, .inr (9, [.int th, .ref a0, .ref a1, .ref a2, .int dcz, .ref a3, .int tl, .ref a4, .int xl, .int foz, .int faz, .ref a5, .int mnz, .ref a6, .int ft, .ref a7, .int wl])), (a3, .inl (cB, 3000, .inl tp)), (a5, .inl (cJ, 6, .inr (.inl nuz)))]) [0, 2, 3] (by decide) rfl
              have hFc := va_free (wc := [(h0, .inr (9, [.int th, .ref a0, .ref a1, .ref a2, .int dcz, .ref a3, .int tl, .ref a4, .int xl, .int foz, .int faz, .ref a5, .int mnz, .ref a6, .int ft, .ref a7, .int wl])), (a3, .inl (cB, 3000, .inl tp)), (a5, .inl (cJ, 6, .inr (.inl nuz)))]) hD hS hA [0, 2, 3] rfl
              refine va_calli (va_runV (As := [.int pp, .int nn]) (rest := []) ⟨hx, hb, hml, hown, hts⟩ (c_X9_number l dC dI cB cC cI cJ H.size h0 a0 a1 a2 a3 a4 a5 a6 a7 th dcz tl xl foz faz mnz ft wl tp nuz pp nn p_464 p_465 p_466 p_467 p_468) (cwV 2 hts gX9_readAll_X9_number rfl rfl rfl (by decide +kernel) ⟨(Nat.le_of_ble_eq_true rfl), (Nat.le_of_ble_eq_true rfl)⟩) ⟨cP_blind, va_recv hG.1 hPc (ci := 9) (q0 := 0) rfl rfl, cP_pre hPc hG hDc⟩ rfl rfl hl.1 rfl (lv_room (Nat.le_of_ble_eq_true rfl)) dX9_readAll_165 ⟨Nat.le_of_ble_eq_true rfl, Nat.le_of_ble_eq_true rfl⟩) hS (fun q _ h => hFc q h) hFc (fun r_474v u t H1 locs ht hvm hw hB hz1 hk1 hS => ?_)
              obtain ⟨hP1, hD1⟩ := hB
              rw [ht] at hP1
              generalize hr_474 : fX9_number th dcz tl xl foz faz mnz ft wl tp nuz pp nn = r_474 at hP1 hD1 hw
              obtain ⟨hw, er_474_0, er_474_1⟩ := hw
              rw [bnd_eq hr_474] at hR
              subst hw
              obtain ⟨hP, hD⟩ := va_join (wr := [(a2, .inl (cI, 1800, .inl drz)), (a6, .inl (cJ, 6, .inr (.inl laz)))]) (w1 := [(h0, .inr (9, [.int th, .ref a0, .ref a1, .ref a2, .int dcz, .ref a3, .int tl, .ref a4, .int xl, .int r_474.2.1, .int r_474.2.2.1, .ref a5, .int r_474.2.2.2.1, .ref a6, .int ft, .ref a7, .int wl])), (a3, .inl (cB, 3000, .inl tp)), (a5, .inl (cJ, 6, .inr (.inl r_474.2.2.2.2)))]) hP hD [0, 2, 3] [1, 4] rfl rfl (by decide) (by decide) hk1 hFc hP1 hD1
              generalize H1 = H at hP hS ⊢
              have hP := hP.sub (ws' := [(h0, .inr (9, [.int th, .ref a0, .ref a1, .ref a2, .int dcz, .ref a3, .int tl, .ref a4, .int xl, .int r_474.2.1, .int r_474.2.2.1, .ref a5, .int r_474.2.2.2.1, .ref a6, .int ft, .ref a7, .int wl])), (a2, .inl (cI, 1800, .inl drz)), (a3, .inl (cB, 3000, .inl tp)), (a5, .inl (cJ, 6, .inr (.inl r_474.2.2.2.2))), (a6, .inl (cJ, 6, .inr (.inl laz)))]) [2, 0, 3, 4, 1] rfl
              have hD := hD.sub (ws' := [(h0, .inr (9, [.int th, .ref a0, .ref a1, .ref a2, .int dcz, .ref a3, .int tl, .ref a4, .int xl, .int r_474.2.1, .int r_474.2.2.1, .ref a5, .int r_474.2.2.2.1, .ref a6, .int ft, .ref a7, .int wl])), (a2, .inl (cI, 1800, .inl drz)), (a3, .inl (cB, 3000, .inl tp)), (a5, .inl (cJ, 6, .inr (.inl r_474.2.2.2.2))), (a6, .inl (cJ, 6, .inr (.inl laz)))]) [2, 0, 3, 4, 1] (by decide) rfl
              refine lv_istore_n (lv' := [(2, .int r_474.1), (0, .ref h0), (1, .int nn), (4, .int fs)]) hx hb dX9_readAll_168 rfl hl (by decide) rfl (fun ls hl => ?_)
              refine lv_iload_n hx hb dX9_readAll_169 rfl (lv_at hl 0 rfl) ?_
              refine lv_if_ge (tgt := 135) hx hb dX9_readAll_170 (by decide) (fun c_475 => ?_) (fun c_475 => ?_)
              · rw [if_pos c_475] at hR
                have v_483 : 0 ≤ r_474.1.toInt := by
                  clear hmu
                  have q_484 := i_nle c_231
                  have k_485 : (44 : Int32).toInt = 44 := by decide
                  have q_486 := i_ne c_281
                  have k_487 : (59 : Int32).toInt = 59 := by decide
                  have q_488 := i_ne c_372
                  have k_489 : (0 : Int32).toInt = 0 := by decide
                  have q_490 := i_le c_475
                  try generalize Int32.toInt (tp pp.toNatClampNeg) = z0 at *
                  try generalize Int32.toInt r_474.2.2.2.1 = z1 at *
                  try generalize Int32.toInt r_474.1 = z2 at *
                  try generalize Int32.toInt dcz = z3 at *
                  try generalize Int32.toInt mnz = z4 at *
                  try generalize Int32.toInt (44 : Int32) = z5 at *
                  try generalize Int32.toInt (59 : Int32) = z6 at *
                  try generalize Int32.toInt fs = z7 at *
                  try generalize Int32.toInt nn = z8 at *
                  try generalize Int32.toInt pp = z9 at *
                  try generalize Int32.toInt (0 : Int32) = z10 at *
                  omega
                have v_491 : r_474.1.toInt ≤ nn.toInt := by
                  clear hmu
                  have q_492 := i_nle c_231
                  have k_493 : (44 : Int32).toInt = 44 := by decide
                  have q_494 := i_ne c_281
                  have k_495 : (59 : Int32).toInt = 59 := by decide
                  have q_496 := i_ne c_372
                  have k_497 : (0 : Int32).toInt = 0 := by decide
                  have q_498 := i_le c_475
                  try generalize Int32.toInt (tp pp.toNatClampNeg) = z0 at *
                  try generalize Int32.toInt r_474.2.2.2.1 = z1 at *
                  try generalize Int32.toInt r_474.1 = z2 at *
                  try generalize Int32.toInt dcz = z3 at *
                  try generalize Int32.toInt mnz = z4 at *
                  try generalize Int32.toInt (44 : Int32) = z5 at *
                  try generalize Int32.toInt (59 : Int32) = z6 at *
                  try generalize Int32.toInt fs = z7 at *
                  try generalize Int32.toInt nn = z8 at *
                  try generalize Int32.toInt pp = z9 at *
                  try generalize Int32.toInt (0 : Int32) = z10 at *
                  omega
                have v_499 : 0 ≤ dcz.toInt := by
                  clear hmu
                  have q_500 := i_nle c_231
                  have k_501 : (44 : Int32).toInt = 44 := by decide
                  have q_502 := i_ne c_281
                  have k_503 : (59 : Int32).toInt = 59 := by decide
                  have q_504 := i_ne c_372
                  have k_505 : (0 : Int32).toInt = 0 := by decide
                  have q_506 := i_le c_475
                  try generalize Int32.toInt (tp pp.toNatClampNeg) = z0 at *
                  try generalize Int32.toInt r_474.2.2.2.1 = z1 at *
                  try generalize Int32.toInt r_474.1 = z2 at *
                  try generalize Int32.toInt dcz = z3 at *
                  try generalize Int32.toInt mnz = z4 at *
                  try generalize Int32.toInt (44 : Int32) = z5 at *
                  try generalize Int32.toInt (59 : Int32) = z6 at *
                  try generalize Int32.toInt fs = z7 at *
                  try generalize Int32.toInt nn = z8 at *
                  try generalize Int32.toInt pp = z9 at *
                  try generalize Int32.toInt (0 : Int32) = z10 at *
                  omega
                have v_507 : dcz.toInt ≤ 300 := by
                  clear hmu
                  have q_508 := i_nle c_231
                  have k_509 : (44 : Int32).toInt = 44 := by decide
                  have q_510 := i_ne c_281
                  have k_511 : (59 : Int32).toInt = 59 := by decide
                  have q_512 := i_ne c_372
                  have k_513 : (0 : Int32).toInt = 0 := by decide
                  have q_514 := i_le c_475
                  try generalize Int32.toInt (tp pp.toNatClampNeg) = z0 at *
                  try generalize Int32.toInt r_474.2.2.2.1 = z1 at *
                  try generalize Int32.toInt r_474.1 = z2 at *
                  try generalize Int32.toInt dcz = z3 at *
                  try generalize Int32.toInt mnz = z4 at *
                  try generalize Int32.toInt (44 : Int32) = z5 at *
                  try generalize Int32.toInt (59 : Int32) = z6 at *
                  try generalize Int32.toInt fs = z7 at *
                  try generalize Int32.toInt nn = z8 at *
                  try generalize Int32.toInt pp = z9 at *
                  try generalize Int32.toInt (0 : Int32) = z10 at *
                  omega
                have v_515 : fs.toInt ≤ r_474.1.toInt := by
                  clear hmu
                  have q_516 := i_nle c_231
                  have k_517 : (44 : Int32).toInt = 44 := by decide
                  have q_518 := i_ne c_281
                  have k_519 : (59 : Int32).toInt = 59 := by decide
                  have q_520 := i_ne c_372
                  have k_521 : (0 : Int32).toInt = 0 := by decide
                  have q_522 := i_le c_475
                  try generalize Int32.toInt (tp pp.toNatClampNeg) = z0 at *
                  try generalize Int32.toInt r_474.2.2.2.1 = z1 at *
                  try generalize Int32.toInt r_474.1 = z2 at *
                  try generalize Int32.toInt dcz = z3 at *
                  try generalize Int32.toInt mnz = z4 at *
                  try generalize Int32.toInt (44 : Int32) = z5 at *
                  try generalize Int32.toInt (59 : Int32) = z6 at *
                  try generalize Int32.toInt fs = z7 at *
                  try generalize Int32.toInt nn = z8 at *
                  try generalize Int32.toInt pp = z9 at *
                  try generalize Int32.toInt (0 : Int32) = z10 at *
                  omega
                have v_523 : 0 ≤ r_474.2.2.2.1.toInt := by
                  clear hmu
                  have q_524 := i_nle c_231
                  have k_525 : (44 : Int32).toInt = 44 := by decide
                  have q_526 := i_ne c_281
                  have k_527 : (59 : Int32).toInt = 59 := by decide
                  have q_528 := i_ne c_372
                  have k_529 : (0 : Int32).toInt = 0 := by decide
                  have q_530 := i_le c_475
                  try generalize Int32.toInt (tp pp.toNatClampNeg) = z0 at *
                  try generalize Int32.toInt r_474.2.2.2.1 = z1 at *
                  try generalize Int32.toInt r_474.1 = z2 at *
                  try generalize Int32.toInt dcz = z3 at *
                  try generalize Int32.toInt mnz = z4 at *
                  try generalize Int32.toInt (44 : Int32) = z5 at *
                  try generalize Int32.toInt (59 : Int32) = z6 at *
                  try generalize Int32.toInt fs = z7 at *
                  try generalize Int32.toInt nn = z8 at *
                  try generalize Int32.toInt pp = z9 at *
                  try generalize Int32.toInt (0 : Int32) = z10 at *
                  omega
                have v_531 : r_474.2.2.2.1.toInt ≤ r_474.1.toInt := by
                  clear hmu
                  have q_532 := i_nle c_231
                  have k_533 : (44 : Int32).toInt = 44 := by decide
                  have q_534 := i_ne c_281
                  have k_535 : (59 : Int32).toInt = 59 := by decide
                  have q_536 := i_ne c_372
                  have k_537 : (0 : Int32).toInt = 0 := by decide
                  have q_538 := i_le c_475
                  try generalize Int32.toInt (tp pp.toNatClampNeg) = z0 at *
                  try generalize Int32.toInt r_474.2.2.2.1 = z1 at *
                  try generalize Int32.toInt r_474.1 = z2 at *
                  try generalize Int32.toInt dcz = z3 at *
                  try generalize Int32.toInt mnz = z4 at *
                  try generalize Int32.toInt (44 : Int32) = z5 at *
                  try generalize Int32.toInt (59 : Int32) = z6 at *
                  try generalize Int32.toInt fs = z7 at *
                  try generalize Int32.toInt nn = z8 at *
                  try generalize Int32.toInt pp = z9 at *
                  try generalize Int32.toInt (0 : Int32) = z10 at *
                  omega
                have v_539 : r_474.1.toInt = fs.toInt → (r_474.1.toInt < nn.toInt ∧ (tp r_474.1.toNatClampNeg).toInt ≠ 44 ∧ (tp r_474.1.toNatClampNeg).toInt ≠ 59) := by
                  clear hmu
                  have q_540 := i_nle c_231
                  have k_541 : (44 : Int32).toInt = 44 := by decide
                  have q_542 := i_ne c_281
                  have k_543 : (59 : Int32).toInt = 59 := by decide
                  have q_544 := i_ne c_372
                  have k_545 : (0 : Int32).toInt = 0 := by decide
                  have q_546 := i_le c_475
                  try generalize Int32.toInt (tp pp.toNatClampNeg) = z0 at *
                  try generalize Int32.toInt r_474.2.2.2.1 = z1 at *
                  try generalize Int32.toInt r_474.1 = z2 at *
                  try generalize Int32.toInt dcz = z3 at *
                  try generalize Int32.toInt mnz = z4 at *
                  try generalize Int32.toInt (44 : Int32) = z5 at *
                  try generalize Int32.toInt (59 : Int32) = z6 at *
                  try generalize Int32.toInt fs = z7 at *
                  try generalize Int32.toInt nn = z8 at *
                  try generalize Int32.toInt pp = z9 at *
                  try generalize Int32.toInt (0 : Int32) = z10 at *
                  omega
                have v_547 : (r_474.1.toInt = fs.toInt → 8 * (nn.toInt - r_474.1.toInt) + 5 < ((n : Nat) : Int)) ∧ (fs.toInt < r_474.1.toInt → 8 * (nn.toInt - r_474.1.toInt) + 12 < ((n : Nat) : Int)) := by
                  have q_548 := i_nle c_231
                  have k_549 : (44 : Int32).toInt = 44 := by decide
                  have q_550 := i_ne c_281
                  have k_551 : (59 : Int32).toInt = 59 := by decide
                  have q_552 := i_ne c_372
                  have k_553 : (0 : Int32).toInt = 0 := by decide
                  have q_554 := i_le c_475
                  try generalize Int32.toInt (tp pp.toNatClampNeg) = z0 at *
                  try generalize Int32.toInt r_474.2.2.2.1 = z1 at *
                  try generalize Int32.toInt r_474.1 = z2 at *
                  try generalize Int32.toInt dcz = z3 at *
                  try generalize Int32.toInt mnz = z4 at *
                  try generalize Int32.toInt (44 : Int32) = z5 at *
                  try generalize Int32.toInt (59 : Int32) = z6 at *
                  try generalize Int32.toInt fs = z7 at *
                  try generalize Int32.toInt nn = z8 at *
                  try generalize Int32.toInt pp = z9 at *
                  try generalize Int32.toInt (0 : Int32) = z10 at *
                  omega
                exact ih_135 (r_474.1) (0) (fs) (dcz) (drz) (r_474.2.1) (r_474.2.2.1) (r_474.2.2.2.1) (r_474.2.2.2.2) (laz) _ _ ls hR v_483 v_491 v_499 v_507 v_515 v_523 v_531 v_539 v_547 hP hD hS (lv_sub hl [1, 2, 0, 3] rfl)
              · rw [if_neg c_475] at hR
                refine lv_iconst (v := 0) hx hb dX9_readAll_173 (by decide) ?_
                have e_555 : 0 ≤ (dcz : Int32).toInt ∧ (dcz : Int32).toInt ≤ 300 := by
                  clear hmu
                  have q_556 := i_nle c_231
                  have k_557 : (44 : Int32).toInt = 44 := by decide
                  have q_558 := i_ne c_281
                  have k_559 : (59 : Int32).toInt = 59 := by decide
                  have q_560 := i_ne c_372
                  have k_561 : (0 : Int32).toInt = 0 := by decide
                  have q_562 := i_nle c_475
                  try generalize Int32.toInt (tp pp.toNatClampNeg) = z0 at *
                  try generalize Int32.toInt r_474.2.2.2.1 = z1 at *
                  try generalize Int32.toInt r_474.1 = z2 at *
                  try generalize Int32.toInt dcz = z3 at *
                  try generalize Int32.toInt mnz = z4 at *
                  try generalize Int32.toInt (44 : Int32) = z5 at *
                  try generalize Int32.toInt (59 : Int32) = z6 at *
                  try generalize Int32.toInt fs = z7 at *
                  try generalize Int32.toInt nn = z8 at *
                  try generalize Int32.toInt pp = z9 at *
                  try generalize Int32.toInt (0 : Int32) = z10 at *
                  omega
                subst hR
                exact W.zret (v := 0) hx hb hr rfl (fun t ht hW => ⟨⟨0, (), rfl, ⟨rfl, e_555⟩, by rw [ht]; exact hP, hD⟩, hS.F ht⟩) hS.2.2 dX9_readAll_174
  have loop_28 := fun n => (loops_A n).1
  have loop_89 := fun n => (loops_A n).2.1
  have loop_135 := fun n => (loops_A n).2.2
  have loop_7 : ∀ (n : Nat), ∀ (k : Int32) (lz : Nat → Int64) (H : Heap) (locs : List Loc) (ls : Array Slot), fX9_readAll_7 th dc tl xl fo fa mn ft wl dr tp nu la nn n k lz = R → (0 ≤ k.toInt) → (k.toInt ≤ 6) → (6 - k.toInt < ((n : Nat) : Int)) → va_P (dC, dI) vwCl [(h0, .inr (9, [.int th, .ref a0, .ref a1, .ref a2, .int 0, .ref a3, .int tl, .ref a4, .int xl, .int fo, .int fa, .ref a5, .int mn, .ref a6, .int ft, .ref a7, .int wl])), (a2, .inl (cI, 1800, .inl dr)), (a3, .inl (cB, 3000, .inl tp)), (a5, .inl (cJ, 6, .inr (.inl nu))), (a6, .inl (cJ, 6, .inr (.inl lz)))] H → va_D A [(h0, .inr (9, [.int th, .ref a0, .ref a1, .ref a2, .int 0, .ref a3, .int tl, .ref a4, .int xl, .int fo, .int fa, .ref a5, .int mn, .ref a6, .int ft, .ref a7, .int wl])), (a2, .inl (cI, 1800, .inl dr)), (a3, .inl (cB, 3000, .inl tp)), (a5, .inl (cJ, 6, .inr (.inl nu))), (a6, .inl (cJ, 6, .inr (.inl lz)))] → va_S A s.heap H locs → lv_has ls 5 [(0, .ref h0), (1, .int nn), (2, .int k)] → W p l e (headSpec wsX9_readAll ({ frames := 2, cells := 0, slots := 0, locals := 53 } : Room)).room s m ([.ref h0, .int nn] : List Value).toArray below meth c H locs 0 0 (MQ below (va_Qi (fun r _ => r = R.1 ∧ (0 ≤ R.2.1.toInt ∧ R.2.1.toInt ≤ 300)) (cE dC dI (A) [(h0, .inr (9, [.int th, .ref a0, .ref a1, .ref a2, .int R.2.1, .ref a3, .int tl, .ref a4, .int xl, .int R.2.2.1, .int R.2.2.2.1, .ref a5, .int R.2.2.2.2.1, .ref a6, .int ft, .ref a7, .int wl])), (a2, .inl (cI, 1800, .inl R.2.2.2.2.2.1)), (a3, .inl (cB, 3000, .inl tp)), (a5, .inl (cJ, 6, .inr (.inl R.2.2.2.2.2.2.1))), (a6, .inl (cJ, 6, .inr (.inl R.2.2.2.2.2.2.2)))]) (A)) ([.ref h0, .int nn] : List Value).toArray s 0 0 A) (F0 m 7 ls []) := by
    intro n
    induction n with
    | zero => intro k lz H locs ls hR hk0 hk1 hmu; exfalso; omega
    | succ n ih =>
      intro k lz H locs ls hR hk0 hk1 hmu hP hD hS hl
      rw [fX9_readAll_7] at hR
      refine lv_iload_n hx hb dX9_readAll_7 rfl (lv_at hl 2 rfl) ?_
      refine lv_bipush (v := 6) hx hb dX9_readAll_8 (by decide) ?_
      refine lv_icmp_ge (tgt := 26) hx hb dX9_readAll_10 (by decide) (fun c_563 => ?_) (fun c_563 => ?_)
      · rw [if_pos c_563] at hR
        refine lv_iconst (v := 0) hx hb dX9_readAll_26 (by decide) ?_
        refine lv_istore_n (lv' := [(2, .int 0), (0, .ref h0), (1, .int nn)]) hx hb dX9_readAll_27 rfl hl (by decide) rfl (fun ls hl => ?_)
        have v_566 : 0 ≤ (0 : Int32).toInt := by
          have k_567 : (6 : Int32).toInt = 6 := by decide
          have q_568 := i_le c_563
          have k_569 : (0 : Int32).toInt = 0 := by decide
          try generalize Int32.toInt nn = z0 at *
          try generalize Int32.toInt (0 : Int32) = z1 at *
          try generalize Int32.toInt (6 : Int32) = z2 at *
          try generalize Int32.toInt k = z3 at *
          omega
        have v_570 : (0 : Int32).toInt ≤ nn.toInt := by
          have k_571 : (6 : Int32).toInt = 6 := by decide
          have q_572 := i_le c_563
          have k_573 : (0 : Int32).toInt = 0 := by decide
          try generalize Int32.toInt nn = z0 at *
          try generalize Int32.toInt (0 : Int32) = z1 at *
          try generalize Int32.toInt (6 : Int32) = z2 at *
          try generalize Int32.toInt k = z3 at *
          omega
        have v_574 : 0 ≤ (0 : Int32).toInt := by
          have k_575 : (6 : Int32).toInt = 6 := by decide
          have q_576 := i_le c_563
          have k_577 : (0 : Int32).toInt = 0 := by decide
          try generalize Int32.toInt nn = z0 at *
          try generalize Int32.toInt (0 : Int32) = z1 at *
          try generalize Int32.toInt (6 : Int32) = z2 at *
          try generalize Int32.toInt k = z3 at *
          omega
        have v_578 : (0 : Int32).toInt ≤ 300 := by
          have k_579 : (6 : Int32).toInt = 6 := by decide
          have q_580 := i_le c_563
          have k_581 : (0 : Int32).toInt = 0 := by decide
          try generalize Int32.toInt nn = z0 at *
          try generalize Int32.toInt (0 : Int32) = z1 at *
          try generalize Int32.toInt (6 : Int32) = z2 at *
          try generalize Int32.toInt k = z3 at *
          omega
        have v_582 : 8 * (nn.toInt - (0 : Int32).toInt) + 7 < ((24100 : Nat) : Int) := by
          have k_583 : (6 : Int32).toInt = 6 := by decide
          have q_584 := i_le c_563
          have k_585 : (0 : Int32).toInt = 0 := by decide
          try generalize Int32.toInt nn = z0 at *
          try generalize Int32.toInt (0 : Int32) = z1 at *
          try generalize Int32.toInt (6 : Int32) = z2 at *
          try generalize Int32.toInt k = z3 at *
          omega
        exact loop_28 24100 (0) (0) (0) (0) (dr) (fo) (fa) (mn) (nu) (lz) _ _ ls hR v_566 v_570 v_574 v_578 v_582 hP hD hS (lv_sub hl [1, 2, 0] rfl)
      · rw [if_neg c_563] at hR
        refine lv_aload_n hx hb dX9_readAll_13 rfl (lv_at hl 0 rfl) ?_
        refine va_get (D := (dC, dI)) (ci := 9) (v := .ref a6) (C := RX9) (T := TX9) (N := 17) hx hb hts inc_X9_readAll_9 hown hG.1 hP 0 rfl rfl 13 (by decide) (hts (.fieldLink RX9 52 "MappingDeskModel" "latest" "[J") (by decide +kernel)) (fun _ h9 => h9) rfl dX9_readAll_14 ?_
        refine lv_iload_n hx hb dX9_readAll_17 rfl (lv_at hl 2 rfl) ?_
        refine lv_lconst (v := 0) hx hb dX9_readAll_18 (by decide) ?_
        have b_586 : vp_in k 6 := by
          have k_587 : (6 : Int32).toInt = 6 := by decide
          have q_588 := i_nle c_563
          refine vin ?_ ?_
          all_goals (try generalize Int32.toInt nn = z0 at *; try generalize Int32.toInt (6 : Int32) = z1 at *; try generalize Int32.toInt k = z2 at *; omega)
        refine va_last hx hb hG.1 hP hD hS 4 3 rfl rfl b_586 dX9_readAll_19 (fun H locs hP hD hS => ?_)
        have hP : va_P (dC, dI) vwCl [(h0, .inr (9, [.int th, .ref a0, .ref a1, .ref a2, .int 0, .ref a3, .int tl, .ref a4, .int xl, .int fo, .int fa, .ref a5, .int mn, .ref a6, .int ft, .ref a7, .int wl])), (a2, .inl (cI, 1800, .inl dr)), (a3, .inl (cB, 3000, .inl tp)), (a5, .inl (cJ, 6, .inr (.inl nu))), (a6, .inl (cJ, 6, .inr (.inl (vp_updL lz k.toNatClampNeg 0))))] H := hP
        have hD : va_D A [(h0, .inr (9, [.int th, .ref a0, .ref a1, .ref a2, .int 0, .ref a3, .int tl, .ref a4, .int xl, .int fo, .int fa, .ref a5, .int mn, .ref a6, .int ft, .ref a7, .int wl])), (a2, .inl (cI, 1800, .inl dr)), (a3, .inl (cB, 3000, .inl tp)), (a5, .inl (cJ, 6, .inr (.inl nu))), (a6, .inl (cJ, 6, .inr (.inl (vp_updL lz k.toNatClampNeg 0))))] := hD
        refine lv_iinc (v := (k + 1)) (lv' := [(2, .int (k + 1)), (0, .ref h0), (1, .int nn)]) hx hb dX9_readAll_20 hl (k := 2) rfl rfl (by decide) rfl (fun ls hl => ?_)
        refine lv_goto (tgt := 7) hx hb dX9_readAll_23 (by decide) ?_
        have v_593 : 0 ≤ ((k + 1)).toInt := by
          have k_594 : (6 : Int32).toInt = 6 := by decide
          have q_595 := i_nle c_563
          have k_596 : (1 : Int32).toInt = 1 := by decide
          have t_597 := ti_add (a := k) (b := 1) (by omega) (by omega)
          try generalize Int32.toInt (k + 1) = z0 at *
          try generalize Int32.toInt nn = z1 at *
          try generalize Int32.toInt (1 : Int32) = z2 at *
          try generalize Int32.toInt (6 : Int32) = z3 at *
          try generalize Int32.toInt k = z4 at *
          omega
        have v_598 : ((k + 1)).toInt ≤ 6 := by
          have k_599 : (6 : Int32).toInt = 6 := by decide
          have q_600 := i_nle c_563
          have k_601 : (1 : Int32).toInt = 1 := by decide
          have t_602 := ti_add (a := k) (b := 1) (by omega) (by omega)
          try generalize Int32.toInt (k + 1) = z0 at *
          try generalize Int32.toInt nn = z1 at *
          try generalize Int32.toInt (1 : Int32) = z2 at *
          try generalize Int32.toInt (6 : Int32) = z3 at *
          try generalize Int32.toInt k = z4 at *
          omega
        have v_603 : 6 - ((k + 1)).toInt < ((n : Nat) : Int) := by
          have k_604 : (6 : Int32).toInt = 6 := by decide
          have q_605 := i_nle c_563
          have k_606 : (1 : Int32).toInt = 1 := by decide
          have t_607 := ti_add (a := k) (b := 1) (by omega) (by omega)
          try generalize Int32.toInt (k + 1) = z0 at *
          try generalize Int32.toInt nn = z1 at *
          try generalize Int32.toInt (1 : Int32) = z2 at *
          try generalize Int32.toInt (6 : Int32) = z3 at *
          try generalize Int32.toInt k = z4 at *
          omega
        exact ih ((k + 1)) ((vp_updL lz k.toNatClampNeg 0)) _ _ ls hR v_593 v_598 v_603 hP hD hS (lv_sub hl [1, 2, 0] rfl)
  refine lv_aload_n hx hb dX9_readAll_0 rfl (lv_at hl 0 rfl) ?_
  refine lv_iconst (v := 0) hx hb dX9_readAll_1 (by decide) ?_
  refine va_put (D := (dC, dI)) (ci := 9) (v := .int 0) (ty := .int) (C := RX9) (T := TX9) (N := 17) hx hb hts inc_X9_readAll_9 tyX9 tyX9_ok nmX9 hown hG.1 hP hD hS 0 rfl rfl 4 (by decide) (hts (.fieldLink RX9 23 "MappingDeskModel" "draftCount" "I") (by decide +kernel)) (fun _ h9 => h9) rfl (by decide +kernel) rfl rfl (Nat.le_of_ble_eq_true rfl) dX9_readAll_2 (fun H locs hP hD hS => ?_)
  have hP : va_P (dC, dI) vwCl [(h0, .inr (9, [.int th, .ref a0, .ref a1, .ref a2, .int 0, .ref a3, .int tl, .ref a4, .int xl, .int fo, .int fa, .ref a5, .int mn, .ref a6, .int ft, .ref a7, .int wl])), (a2, .inl (cI, 1800, .inl dr)), (a3, .inl (cB, 3000, .inl tp)), (a5, .inl (cJ, 6, .inr (.inl nu))), (a6, .inl (cJ, 6, .inr (.inl la)))] H := hP
  have hD : va_D A [(h0, .inr (9, [.int th, .ref a0, .ref a1, .ref a2, .int 0, .ref a3, .int tl, .ref a4, .int xl, .int fo, .int fa, .ref a5, .int mn, .ref a6, .int ft, .ref a7, .int wl])), (a2, .inl (cI, 1800, .inl dr)), (a3, .inl (cB, 3000, .inl tp)), (a5, .inl (cJ, 6, .inr (.inl nu))), (a6, .inl (cJ, 6, .inr (.inl la)))] := hD
  refine lv_iconst (v := 0) hx hb dX9_readAll_5 (by decide) ?_
  refine lv_istore_n (lv' := [(2, .int 0), (0, .ref h0), (1, .int nn)]) hx hb dX9_readAll_6 rfl hl (by decide) rfl (fun ls hl => ?_)
  have v_608 : 0 ≤ (0 : Int32).toInt := by
    have k_609 : (0 : Int32).toInt = 0 := by decide
    try generalize Int32.toInt nn = z0 at *
    try generalize Int32.toInt (0 : Int32) = z1 at *
    omega
  have v_610 : (0 : Int32).toInt ≤ 6 := by
    have k_611 : (0 : Int32).toInt = 0 := by decide
    try generalize Int32.toInt nn = z0 at *
    try generalize Int32.toInt (0 : Int32) = z1 at *
    omega
  have v_612 : 6 - (0 : Int32).toInt < ((7 : Nat) : Int) := by
    have k_613 : (0 : Int32).toInt = 0 := by decide
    try generalize Int32.toInt nn = z0 at *
    try generalize Int32.toInt (0 : Int32) = z1 at *
    omega
  exact loop_7 7 (0) (la) _ _ ls hR v_608 v_610 v_612 hP hD hS (lv_sub hl [1, 2, 0] rfl)

def fX9_read_49 (th dc tl xl fo fa mn ft wl : Int32) (rw : Nat → Int32) (ct : Nat → Int32) (dr : Nat → Int32) (tp : Nat → Int32) (nu : Nat → Int64) (la : Nat → Int64) (x : Int32) : Nat → Int32 → (Nat → Int32) → Int32 → Int32 → Int32 → Int32 → (Nat → Int32) → (Nat → Int64) → (Nat → Int64) → Int32 × Int32 × Int32 × Int32 × Int32 × Int32 × Int32 × (Nat → Int32) × (Nat → Int32) × (Nat → Int32) × (Nat → Int64) × (Nat → Int64)
  | 0, _, _, _, _, _, _, _, _, _ => (0, 0, 0, 0, 0, 0, 0, (fun _ => 0), (fun _ => 0), (fun _ => 0), (fun _ => 0), (fun _ => 0))
  | n + 1, k, rz, dcz, foz, faz, mnz, drz, nuz, laz =>
    if (6 * dcz) ≤ k then
      (dcz, 0, dcz, 0, foz, faz, mnz, rz, (upd ct x.toNatClampNeg dcz), drz, nuz, laz)
    else
      fX9_read_49 th dc tl xl fo fa mn ft wl rw ct dr tp nu la x n (k + 1) (upd rz ((1800 * x) + k).toNatClampNeg (drz k.toNatClampNeg)) dcz foz faz mnz drz nuz laz
def fX9_read (th dc tl xl fo fa mn ft wl : Int32) (rw : Nat → Int32) (ct : Nat → Int32) (dr : Nat → Int32) (tp : Nat → Int32) (nu : Nat → Int64) (la : Nat → Int64) (x : Int32) : Int32 × Int32 × Int32 × Int32 × Int32 × Int32 × Int32 × (Nat → Int32) × (Nat → Int32) × (Nat → Int32) × (Nat → Int64) × (Nat → Int64) :=
  if x < 0 then
    ((-1), 0, dc, 0, 0, fa, mn, rw, ct, dr, nu, la)
  else
    if x ≤ 1 then
      bnd (fX9_readAll 0 dc 0 xl 0 fa mn ft wl dr tp nu la tl) fun r_58 =>
      if r_58.1 = 0 then
        (((-2) - r_58.2.2.2.1), 0, r_58.2.1, 0, r_58.2.2.1, r_58.2.2.2.1, r_58.2.2.2.2.1, rw, ct, r_58.2.2.2.2.2.1, r_58.2.2.2.2.2.2.1, r_58.2.2.2.2.2.2.2)
      else
        fX9_read_49 th dc tl xl fo fa mn ft wl rw ct dr tp nu la x 1801 0 rw r_58.2.1 r_58.2.2.1 r_58.2.2.2.1 r_58.2.2.2.2.1 r_58.2.2.2.2.2.1 r_58.2.2.2.2.2.2.1 r_58.2.2.2.2.2.2.2
    else
      ((-1), 0, dc, 0, 0, fa, mn, rw, ct, dr, nu, la)
theorem inc_X9_read_9 : ∀ w ∈ u_ws RX9 TX9 17, w ∈ wsX9_read := by decide +kernel
set_option maxHeartbeats 4000000 in
set_option maxRecDepth 100000 in
theorem c_X9_read (l : Launch) (dC : Nat → ClassId) (dI : Nat → Nat → Nat) (cB cC cI cJ : ClassId) (sz : Nat) (h0 a0 a1 a2 a3 a4 a5 a6 a7 : Nat) (th dc tl xl fo fa mn ft wl : Int32) (rw : Nat → Int32) (ct : Nat → Int32) (dr : Nat → Int32) (tp : Nat → Int32) (nu : Nat → Int64) (la : Nat → Int64) (x : Int32) (ht0 : 0 ≤ tl.toInt) (ht1 : tl.toInt ≤ 3000) : Met l yX9_read wsX9_read ({ frames := 3, cells := 0, slots := 0, locals := 77 } : Room) (cP dC dI cB cC cI cJ [.ref h0, .int x] sz [(h0, .inr (9, [.int th, .ref a0, .ref a1, .ref a2, .int dc, .ref a3, .int tl, .ref a4, .int xl, .int fo, .int fa, .ref a5, .int mn, .ref a6, .int ft, .ref a7, .int wl])), (a0, .inl (cI, 3600, .inl rw)), (a1, .inl (cI, 2, .inl ct)), (a2, .inl (cI, 1800, .inl dr)), (a3, .inl (cB, 3000, .inl tp)), (a5, .inl (cJ, 6, .inr (.inl nu))), (a6, .inl (cJ, 6, .inr (.inl la)))]) (va_Qi (fun r _ => r = (fX9_read th dc tl xl fo fa mn ft wl rw ct dr tp nu la x).1) (cE dC dI (va_A [(h0, .inr (9, [.int th, .ref a0, .ref a1, .ref a2, .int dc, .ref a3, .int tl, .ref a4, .int xl, .int fo, .int fa, .ref a5, .int mn, .ref a6, .int ft, .ref a7, .int wl])), (a0, .inl (cI, 3600, .inl rw)), (a1, .inl (cI, 2, .inl ct)), (a2, .inl (cI, 1800, .inl dr)), (a3, .inl (cB, 3000, .inl tp)), (a5, .inl (cJ, 6, .inr (.inl nu))), (a6, .inl (cJ, 6, .inr (.inl la)))] sz) [(h0, .inr (9, [.int (fX9_read th dc tl xl fo fa mn ft wl rw ct dr tp nu la x).2.1, .ref a0, .ref a1, .ref a2, .int (fX9_read th dc tl xl fo fa mn ft wl rw ct dr tp nu la x).2.2.1, .ref a3, .int (fX9_read th dc tl xl fo fa mn ft wl rw ct dr tp nu la x).2.2.2.1, .ref a4, .int xl, .int (fX9_read th dc tl xl fo fa mn ft wl rw ct dr tp nu la x).2.2.2.2.1, .int (fX9_read th dc tl xl fo fa mn ft wl rw ct dr tp nu la x).2.2.2.2.2.1, .ref a5, .int (fX9_read th dc tl xl fo fa mn ft wl rw ct dr tp nu la x).2.2.2.2.2.2.1, .ref a6, .int ft, .ref a7, .int wl])), (a0, .inl (cI, 3600, .inl (fX9_read th dc tl xl fo fa mn ft wl rw ct dr tp nu la x).2.2.2.2.2.2.2.1)), (a1, .inl (cI, 2, .inl (fX9_read th dc tl xl fo fa mn ft wl rw ct dr tp nu la x).2.2.2.2.2.2.2.2.1)), (a2, .inl (cI, 1800, .inl (fX9_read th dc tl xl fo fa mn ft wl rw ct dr tp nu la x).2.2.2.2.2.2.2.2.2.1)), (a3, .inl (cB, 3000, .inl tp)), (a5, .inl (cJ, 6, .inr (.inl (fX9_read th dc tl xl fo fa mn ft wl rw ct dr tp nu la x).2.2.2.2.2.2.2.2.2.2.1))), (a6, .inl (cJ, 6, .inr (.inl (fX9_read th dc tl xl fo fa mn ft wl rw ct dr tp nu la x).2.2.2.2.2.2.2.2.2.2.2)))]) (va_A [(h0, .inr (9, [.int th, .ref a0, .ref a1, .ref a2, .int dc, .ref a3, .int tl, .ref a4, .int xl, .int fo, .int fa, .ref a5, .int mn, .ref a6, .int ft, .ref a7, .int wl])), (a0, .inl (cI, 3600, .inl rw)), (a1, .inl (cI, 2, .inl ct)), (a2, .inl (cI, 1800, .inl dr)), (a3, .inl (cB, 3000, .inl tp)), (a5, .inl (cJ, 6, .inr (.inl nu))), (a6, .inl (cJ, 6, .inr (.inl la)))] sz)) 0 0 (va_A [(h0, .inr (9, [.int th, .ref a0, .ref a1, .ref a2, .int dc, .ref a3, .int tl, .ref a4, .int xl, .int fo, .int fa, .ref a5, .int mn, .ref a6, .int ft, .ref a7, .int wl])), (a0, .inl (cI, 3600, .inl rw)), (a1, .inl (cI, 2, .inl ct)), (a2, .inl (cI, 1800, .inl dr)), (a3, .inl (cB, 3000, .inl tp)), (a5, .inl (cJ, 6, .inr (.inl nu))), (a6, .inl (cJ, 6, .inr (.inl la)))] sz) := by
  refine Met.ofW (cc := cX9_read) (maxL := 4) (ret := (some .int)) (by decide) rfl ?_
  intro p e s m args below meth c s₁ B hml hv
  obtain ⟨rfl, hsz, hP, hG, hD0⟩ := hv
  have hx := B.exec
  have hb := B.bytes
  have hr := B.returns
  have hts := atoms_spec (ws := wsX9_read) B.pre
  have hown : s.vm.findClass RX9 = some m.cls := findClass_of_methodNamed B.named
  have hlocks := B.notSynchronized
  subst hsz
  have hD := hD0.self (sz := s.heap.size)
  generalize hAe : va_A [(h0, .inr (9, [.int th, .ref a0, .ref a1, .ref a2, .int dc, .ref a3, .int tl, .ref a4, .int xl, .int fo, .int fa, .ref a5, .int mn, .ref a6, .int ft, .ref a7, .int wl])), (a0, .inl (cI, 3600, .inl rw)), (a1, .inl (cI, 2, .inl ct)), (a2, .inl (cI, 1800, .inl dr)), (a3, .inl (cB, 3000, .inl tp)), (a5, .inl (cJ, 6, .inr (.inl nu))), (a6, .inl (cJ, 6, .inr (.inl la)))] s.heap.size = A at hD ⊢
  have hA : ∀ q : Nat, s.heap.size ≤ q → A q := fun q h => by rw [← hAe]; exact Or.inr h
  obtain ⟨H, hH⟩ : ∃ H : Heap, H = s.heap := ⟨_, rfl⟩
  have hS : va_S A s.heap H [] := by rw [hH]; exact va_S.rf
  rw [← hH] at hP ⊢
  generalize hR : fX9_read th dc tl xl fo fa mn ft wl rw ct dr tp nu la x = R
  unfold fX9_read at hR
  have hl := lv_entry ([.ref h0, .int x]) (n := 4) (Nat.le_of_ble_eq_true rfl)
  rw [lg_entry_eq]
  generalize (lg_sl ([.ref h0, .int x]) ++ List.replicate (4 - (lg_sl ([.ref h0, .int x])).length) Slot.unset).toArray = ls at hl ⊢
  have hl : lv_has ls 4 [(0, .ref h0), (1, .int x)] := hl
  have loop_49 : ∀ (n : Nat), ∀ (k : Int32) (rz : Nat → Int32) (dcz : Int32) (foz : Int32) (faz : Int32) (mnz : Int32) (drz : Nat → Int32) (nuz : Nat → Int64) (laz : Nat → Int64) (H : Heap) (locs : List Loc) (ls : Array Slot), fX9_read_49 th dc tl xl fo fa mn ft wl rw ct dr tp nu la x n k rz dcz foz faz mnz drz nuz laz = R → (0 ≤ x.toInt) → (x.toInt ≤ 1) → (0 ≤ k.toInt) → (k.toInt ≤ 1800) → (0 ≤ dcz.toInt) → (dcz.toInt ≤ 300) → (1800 - k.toInt < ((n : Nat) : Int)) → va_P (dC, dI) vwCl [(h0, .inr (9, [.int 0, .ref a0, .ref a1, .ref a2, .int dcz, .ref a3, .int 0, .ref a4, .int xl, .int foz, .int faz, .ref a5, .int mnz, .ref a6, .int ft, .ref a7, .int wl])), (a0, .inl (cI, 3600, .inl rz)), (a1, .inl (cI, 2, .inl ct)), (a2, .inl (cI, 1800, .inl drz)), (a3, .inl (cB, 3000, .inl tp)), (a5, .inl (cJ, 6, .inr (.inl nuz))), (a6, .inl (cJ, 6, .inr (.inl laz)))] H → va_D A [(h0, .inr (9, [.int 0, .ref a0, .ref a1, .ref a2, .int dcz, .ref a3, .int 0, .ref a4, .int xl, .int foz, .int faz, .ref a5, .int mnz, .ref a6, .int ft, .ref a7, .int wl])), (a0, .inl (cI, 3600, .inl rz)), (a1, .inl (cI, 2, .inl ct)), (a2, .inl (cI, 1800, .inl drz)), (a3, .inl (cB, 3000, .inl tp)), (a5, .inl (cJ, 6, .inr (.inl nuz))), (a6, .inl (cJ, 6, .inr (.inl laz)))] → va_S A s.heap H locs → lv_has ls 4 [(0, .ref h0), (1, .int x), (2, .int tl), (3, .int k)] → W p l e (headSpec wsX9_read ({ frames := 3, cells := 0, slots := 0, locals := 77 } : Room)).room s m ([.ref h0, .int x] : List Value).toArray below meth c H locs 0 0 (MQ below (va_Qi (fun r _ => r = R.1) (cE dC dI (A) [(h0, .inr (9, [.int R.2.1, .ref a0, .ref a1, .ref a2, .int R.2.2.1, .ref a3, .int R.2.2.2.1, .ref a4, .int xl, .int R.2.2.2.2.1, .int R.2.2.2.2.2.1, .ref a5, .int R.2.2.2.2.2.2.1, .ref a6, .int ft, .ref a7, .int wl])), (a0, .inl (cI, 3600, .inl R.2.2.2.2.2.2.2.1)), (a1, .inl (cI, 2, .inl R.2.2.2.2.2.2.2.2.1)), (a2, .inl (cI, 1800, .inl R.2.2.2.2.2.2.2.2.2.1)), (a3, .inl (cB, 3000, .inl tp)), (a5, .inl (cJ, 6, .inr (.inl R.2.2.2.2.2.2.2.2.2.2.1))), (a6, .inl (cJ, 6, .inr (.inl R.2.2.2.2.2.2.2.2.2.2.2)))]) (A)) ([.ref h0, .int x] : List Value).toArray s 0 0 A) (F0 m 49 ls []) := by
    intro n
    induction n with
    | zero => intro k rz dcz foz faz mnz drz nuz laz H locs ls hR hx0 hx1 hk0 hk1 hd0 hd1 hmu; exfalso; omega
    | succ n ih =>
      intro k rz dcz foz faz mnz drz nuz laz H locs ls hR hx0 hx1 hk0 hk1 hd0 hd1 hmu hP hD hS hl
      rw [fX9_read_49] at hR
      refine lv_iload_n hx hb dX9_read_49 rfl (lv_at hl 3 rfl) ?_
      refine lv_bipush (v := 6) hx hb dX9_read_50 (by decide) ?_
      refine lv_aload_n hx hb dX9_read_52 rfl (lv_at hl 0 rfl) ?_
      refine va_get (D := (dC, dI)) (ci := 9) (v := .int dcz) (C := RX9) (T := TX9) (N := 17) hx hb hts inc_X9_read_9 hown hG.1 hP 0 rfl rfl 4 (by decide) (hts (.fieldLink RX9 23 "MappingDeskModel" "draftCount" "I") (by decide +kernel)) (fun _ h9 => h9) rfl dX9_read_53 ?_
      refine lv_imul hx hb dX9_read_56 ?_
      refine lv_icmp_ge (tgt := 84) hx hb dX9_read_57 (by decide) (fun c_1 => ?_) (fun c_1 => ?_)
      · rw [if_pos c_1] at hR
        refine lv_aload_n hx hb dX9_read_84 rfl (lv_at hl 0 rfl) ?_
        refine va_get (D := (dC, dI)) (ci := 9) (v := .ref a1) (C := RX9) (T := TX9) (N := 17) hx hb hts inc_X9_read_9 hown hG.1 hP 0 rfl rfl 2 (by decide) (hts (.fieldLink RX9 17 "MappingDeskModel" "count" "[I") (by decide +kernel)) (fun _ h9 => h9) rfl dX9_read_85 ?_
        refine lv_iload_n hx hb dX9_read_88 rfl (lv_at hl 1 rfl) ?_
        refine lv_aload_n hx hb dX9_read_89 rfl (lv_at hl 0 rfl) ?_
        refine va_get (D := (dC, dI)) (ci := 9) (v := .int dcz) (C := RX9) (T := TX9) (N := 17) hx hb hts inc_X9_read_9 hown hG.1 hP 0 rfl rfl 4 (by decide) (hts (.fieldLink RX9 23 "MappingDeskModel" "draftCount" "I") (by decide +kernel)) (fun _ h9 => h9) rfl dX9_read_90 ?_
        have b_2 : vp_in x 2 := by
          have k_3 : (6 : Int32).toInt = 6 := by decide
          have t_4 : ((6 * dcz)).toInt = 6 * (dcz).toInt := by
            have z := ti_mul (a := 6) (b := dcz) (by rw [show (6 : Int32).toInt = 6 from by decide]; omega) (by rw [show (6 : Int32).toInt = 6 from by decide]; omega)
            rw [z, show (6 : Int32).toInt = 6 from by decide]
          have q_5 := i_le c_1
          refine vin ?_ ?_
          all_goals (try generalize Int32.toInt (6 * dcz) = z0 at *; try generalize Int32.toInt dcz = z1 at *; try generalize Int32.toInt tl = z2 at *; try generalize Int32.toInt (6 : Int32) = z3 at *; try generalize Int32.toInt k = z4 at *; try generalize Int32.toInt x = z5 at *; omega)
        refine va_iast hx hb hG.1 hP hD hS 2 2 rfl rfl b_2 dX9_read_93 (fun H locs hP hD hS => ?_)
        have hP : va_P (dC, dI) vwCl [(h0, .inr (9, [.int 0, .ref a0, .ref a1, .ref a2, .int dcz, .ref a3, .int 0, .ref a4, .int xl, .int foz, .int faz, .ref a5, .int mnz, .ref a6, .int ft, .ref a7, .int wl])), (a0, .inl (cI, 3600, .inl rz)), (a1, .inl (cI, 2, .inl (upd ct x.toNatClampNeg dcz))), (a2, .inl (cI, 1800, .inl drz)), (a3, .inl (cB, 3000, .inl tp)), (a5, .inl (cJ, 6, .inr (.inl nuz))), (a6, .inl (cJ, 6, .inr (.inl laz)))] H := hP
        have hD : va_D A [(h0, .inr (9, [.int 0, .ref a0, .ref a1, .ref a2, .int dcz, .ref a3, .int 0, .ref a4, .int xl, .int foz, .int faz, .ref a5, .int mnz, .ref a6, .int ft, .ref a7, .int wl])), (a0, .inl (cI, 3600, .inl rz)), (a1, .inl (cI, 2, .inl (upd ct x.toNatClampNeg dcz))), (a2, .inl (cI, 1800, .inl drz)), (a3, .inl (cB, 3000, .inl tp)), (a5, .inl (cJ, 6, .inr (.inl nuz))), (a6, .inl (cJ, 6, .inr (.inl laz)))] := hD
        refine lv_aload_n hx hb dX9_read_94 rfl (lv_at hl 0 rfl) ?_
        refine va_get (D := (dC, dI)) (ci := 9) (v := .int dcz) (C := RX9) (T := TX9) (N := 17) hx hb hts inc_X9_read_9 hown hG.1 hP 0 rfl rfl 4 (by decide) (hts (.fieldLink RX9 23 "MappingDeskModel" "draftCount" "I") (by decide +kernel)) (fun _ h9 => h9) rfl dX9_read_95 ?_
        subst hR
        exact W.iret (v := dcz) hx hb hr (fun t ht hW => ⟨⟨dcz, (), rfl, rfl, by rw [ht]; exact hP, hD⟩, hS.F ht⟩) hS.2.2 dX9_read_98
      · rw [if_neg c_1] at hR
        refine lv_aload_n hx hb dX9_read_60 rfl (lv_at hl 0 rfl) ?_
        refine va_get (D := (dC, dI)) (ci := 9) (v := .ref a0) (C := RX9) (T := TX9) (N := 17) hx hb hts inc_X9_read_9 hown hG.1 hP 0 rfl rfl 1 (by decide) (hts (.fieldLink RX9 13 "MappingDeskModel" "rows" "[I") (by decide +kernel)) (fun _ h9 => h9) rfl dX9_read_61 ?_
        refine lv_sipush (v := 1800) hx hb dX9_read_64 (by decide) ?_
        refine lv_iload_n hx hb dX9_read_67 rfl (lv_at hl 1 rfl) ?_
        refine lv_imul hx hb dX9_read_68 ?_
        refine lv_iload_n hx hb dX9_read_69 rfl (lv_at hl 3 rfl) ?_
        refine lv_iadd hx hb dX9_read_70 ?_
        refine lv_aload_n hx hb dX9_read_71 rfl (lv_at hl 0 rfl) ?_
        refine va_get (D := (dC, dI)) (ci := 9) (v := .ref a2) (C := RX9) (T := TX9) (N := 17) hx hb hts inc_X9_read_9 hown hG.1 hP 0 rfl rfl 3 (by decide) (hts (.fieldLink RX9 20 "MappingDeskModel" "draft" "[I") (by decide +kernel)) (fun _ h9 => h9) rfl dX9_read_72 ?_
        refine lv_iload_n hx hb dX9_read_75 rfl (lv_at hl 3 rfl) ?_
        have b_8 : vp_in k 1800 := by
          have k_9 : (6 : Int32).toInt = 6 := by decide
          have t_10 : ((6 * dcz)).toInt = 6 * (dcz).toInt := by
            have z := ti_mul (a := 6) (b := dcz) (by rw [show (6 : Int32).toInt = 6 from by decide]; omega) (by rw [show (6 : Int32).toInt = 6 from by decide]; omega)
            rw [z, show (6 : Int32).toInt = 6 from by decide]
          have q_11 := i_nle c_1
          refine vin ?_ ?_
          all_goals (try generalize Int32.toInt (6 * dcz) = z0 at *; try generalize Int32.toInt dcz = z1 at *; try generalize Int32.toInt tl = z2 at *; try generalize Int32.toInt (6 : Int32) = z3 at *; try generalize Int32.toInt k = z4 at *; try generalize Int32.toInt x = z5 at *; omega)
        refine va_iald hx hb hG.1 hP 3 2 rfl rfl b_8 dX9_read_76 ?_
        have b_14 : vp_in ((1800 * x) + k) 3600 := by
          have k_15 : (6 : Int32).toInt = 6 := by decide
          have t_16 : ((6 * dcz)).toInt = 6 * (dcz).toInt := by
            have z := ti_mul (a := 6) (b := dcz) (by rw [show (6 : Int32).toInt = 6 from by decide]; omega) (by rw [show (6 : Int32).toInt = 6 from by decide]; omega)
            rw [z, show (6 : Int32).toInt = 6 from by decide]
          have q_17 := i_nle c_1
          have k_18 : (1800 : Int32).toInt = 1800 := by decide
          have t_19 : ((1800 * x)).toInt = 1800 * (x).toInt := by
            have z := ti_mul (a := 1800) (b := x) (by rw [show (1800 : Int32).toInt = 1800 from by decide]; omega) (by rw [show (1800 : Int32).toInt = 1800 from by decide]; omega)
            rw [z, show (1800 : Int32).toInt = 1800 from by decide]
          have t_20 := ti_add (a := (1800 * x)) (b := k) (by omega) (by omega)
          refine vin ?_ ?_
          all_goals (try generalize Int32.toInt ((1800 * x) + k) = z0 at *; try generalize Int32.toInt (1800 * x) = z1 at *; try generalize Int32.toInt (6 * dcz) = z2 at *; try generalize Int32.toInt (1800 : Int32) = z3 at *; try generalize Int32.toInt dcz = z4 at *; try generalize Int32.toInt tl = z5 at *; try generalize Int32.toInt (6 : Int32) = z6 at *; try generalize Int32.toInt k = z7 at *; try generalize Int32.toInt x = z8 at *; omega)
        refine va_iast hx hb hG.1 hP hD hS 1 2 rfl rfl b_14 dX9_read_77 (fun H locs hP hD hS => ?_)
        have hP : va_P (dC, dI) vwCl [(h0, .inr (9, [.int 0, .ref a0, .ref a1, .ref a2, .int dcz, .ref a3, .int 0, .ref a4, .int xl, .int foz, .int faz, .ref a5, .int mnz, .ref a6, .int ft, .ref a7, .int wl])), (a0, .inl (cI, 3600, .inl (upd rz ((1800 * x) + k).toNatClampNeg (drz k.toNatClampNeg)))), (a1, .inl (cI, 2, .inl ct)), (a2, .inl (cI, 1800, .inl drz)), (a3, .inl (cB, 3000, .inl tp)), (a5, .inl (cJ, 6, .inr (.inl nuz))), (a6, .inl (cJ, 6, .inr (.inl laz)))] H := hP
        have hD : va_D A [(h0, .inr (9, [.int 0, .ref a0, .ref a1, .ref a2, .int dcz, .ref a3, .int 0, .ref a4, .int xl, .int foz, .int faz, .ref a5, .int mnz, .ref a6, .int ft, .ref a7, .int wl])), (a0, .inl (cI, 3600, .inl (upd rz ((1800 * x) + k).toNatClampNeg (drz k.toNatClampNeg)))), (a1, .inl (cI, 2, .inl ct)), (a2, .inl (cI, 1800, .inl drz)), (a3, .inl (cB, 3000, .inl tp)), (a5, .inl (cJ, 6, .inr (.inl nuz))), (a6, .inl (cJ, 6, .inr (.inl laz)))] := hD
        refine lv_iinc (v := (k + 1)) (lv' := [(3, .int (k + 1)), (0, .ref h0), (1, .int x), (2, .int tl)]) hx hb dX9_read_78 hl (k := 3) rfl rfl (by decide) rfl (fun ls hl => ?_)
        refine lv_goto (tgt := 49) hx hb dX9_read_81 (by decide) ?_
        have v_26 : 0 ≤ x.toInt := by
          first | exact hx0 | assumption
        have v_27 : x.toInt ≤ 1 := by
          first | exact hx1 | assumption
        have v_28 : 0 ≤ ((k + 1)).toInt := by
          have k_29 : (6 : Int32).toInt = 6 := by decide
          have t_30 : ((6 * dcz)).toInt = 6 * (dcz).toInt := by
            have z := ti_mul (a := 6) (b := dcz) (by rw [show (6 : Int32).toInt = 6 from by decide]; omega) (by rw [show (6 : Int32).toInt = 6 from by decide]; omega)
            rw [z, show (6 : Int32).toInt = 6 from by decide]
          have q_31 := i_nle c_1
          have k_32 : (1 : Int32).toInt = 1 := by decide
          have t_33 := ti_add (a := k) (b := 1) (by omega) (by omega)
          try generalize Int32.toInt (6 * dcz) = z0 at *
          try generalize Int32.toInt (k + 1) = z1 at *
          try generalize Int32.toInt dcz = z2 at *
          try generalize Int32.toInt tl = z3 at *
          try generalize Int32.toInt (1 : Int32) = z4 at *
          try generalize Int32.toInt (6 : Int32) = z5 at *
          try generalize Int32.toInt k = z6 at *
          try generalize Int32.toInt x = z7 at *
          omega
        have v_34 : ((k + 1)).toInt ≤ 1800 := by
          have k_35 : (6 : Int32).toInt = 6 := by decide
          have t_36 : ((6 * dcz)).toInt = 6 * (dcz).toInt := by
            have z := ti_mul (a := 6) (b := dcz) (by rw [show (6 : Int32).toInt = 6 from by decide]; omega) (by rw [show (6 : Int32).toInt = 6 from by decide]; omega)
            rw [z, show (6 : Int32).toInt = 6 from by decide]
          have q_37 := i_nle c_1
          have k_38 : (1 : Int32).toInt = 1 := by decide
          have t_39 := ti_add (a := k) (b := 1) (by omega) (by omega)
          try generalize Int32.toInt (6 * dcz) = z0 at *
          try generalize Int32.toInt (k + 1) = z1 at *
          try generalize Int32.toInt dcz = z2 at *
          try generalize Int32.toInt tl = z3 at *
          try generalize Int32.toInt (1 : Int32) = z4 at *
          try generalize Int32.toInt (6 : Int32) = z5 at *
          try generalize Int32.toInt k = z6 at *
          try generalize Int32.toInt x = z7 at *
          omega
        have v_40 : 0 ≤ dcz.toInt := by
          have k_41 : (6 : Int32).toInt = 6 := by decide
          have t_42 : ((6 * dcz)).toInt = 6 * (dcz).toInt := by
            have z := ti_mul (a := 6) (b := dcz) (by rw [show (6 : Int32).toInt = 6 from by decide]; omega) (by rw [show (6 : Int32).toInt = 6 from by decide]; omega)
            rw [z, show (6 : Int32).toInt = 6 from by decide]
          have q_43 := i_nle c_1
          try generalize Int32.toInt (6 * dcz) = z0 at *
          try generalize Int32.toInt dcz = z1 at *
          try generalize Int32.toInt tl = z2 at *
          try generalize Int32.toInt (6 : Int32) = z3 at *
          try generalize Int32.toInt k = z4 at *
          try generalize Int32.toInt x = z5 at *
          omega
        have v_44 : dcz.toInt ≤ 300 := by
          have k_45 : (6 : Int32).toInt = 6 := by decide
          have t_46 : ((6 * dcz)).toInt = 6 * (dcz).toInt := by
            have z := ti_mul (a := 6) (b := dcz) (by rw [show (6 : Int32).toInt = 6 from by decide]; omega) (by rw [show (6 : Int32).toInt = 6 from by decide]; omega)
            rw [z, show (6 : Int32).toInt = 6 from by decide]
          have q_47 := i_nle c_1
          try generalize Int32.toInt (6 * dcz) = z0 at *
          try generalize Int32.toInt dcz = z1 at *
          try generalize Int32.toInt tl = z2 at *
          try generalize Int32.toInt (6 : Int32) = z3 at *
          try generalize Int32.toInt k = z4 at *
          try generalize Int32.toInt x = z5 at *
          omega
        have v_48 : 1800 - ((k + 1)).toInt < ((n : Nat) : Int) := by
          have k_49 : (6 : Int32).toInt = 6 := by decide
          have t_50 : ((6 * dcz)).toInt = 6 * (dcz).toInt := by
            have z := ti_mul (a := 6) (b := dcz) (by rw [show (6 : Int32).toInt = 6 from by decide]; omega) (by rw [show (6 : Int32).toInt = 6 from by decide]; omega)
            rw [z, show (6 : Int32).toInt = 6 from by decide]
          have q_51 := i_nle c_1
          have k_52 : (1 : Int32).toInt = 1 := by decide
          have t_53 := ti_add (a := k) (b := 1) (by omega) (by omega)
          try generalize Int32.toInt (6 * dcz) = z0 at *
          try generalize Int32.toInt (k + 1) = z1 at *
          try generalize Int32.toInt dcz = z2 at *
          try generalize Int32.toInt tl = z3 at *
          try generalize Int32.toInt (1 : Int32) = z4 at *
          try generalize Int32.toInt (6 : Int32) = z5 at *
          try generalize Int32.toInt k = z6 at *
          try generalize Int32.toInt x = z7 at *
          omega
        exact ih ((k + 1)) ((upd rz ((1800 * x) + k).toNatClampNeg (drz k.toNatClampNeg))) (dcz) (foz) (faz) (mnz) (drz) (nuz) (laz) _ _ ls hR v_26 v_27 v_28 v_34 v_40 v_44 v_48 hP hD hS (lv_sub hl [1, 2, 3, 0] rfl)
  refine lv_aload_n hx hb dX9_read_0 rfl (lv_at hl 0 rfl) ?_
  refine lv_iconst (v := 0) hx hb dX9_read_1 (by decide) ?_
  refine va_put (D := (dC, dI)) (ci := 9) (v := .int 0) (ty := .int) (C := RX9) (T := TX9) (N := 17) hx hb hts inc_X9_read_9 tyX9 tyX9_ok nmX9 hown hG.1 hP hD hS 0 rfl rfl 0 (by decide) (hts (.fieldLink RX9 7 "MappingDeskModel" "thrownCode" "I") (by decide +kernel)) (fun _ h9 => h9) rfl (by decide +kernel) rfl rfl (Nat.le_of_ble_eq_true rfl) dX9_read_2 (fun H locs hP hD hS => ?_)
  have hP : va_P (dC, dI) vwCl [(h0, .inr (9, [.int 0, .ref a0, .ref a1, .ref a2, .int dc, .ref a3, .int tl, .ref a4, .int xl, .int fo, .int fa, .ref a5, .int mn, .ref a6, .int ft, .ref a7, .int wl])), (a0, .inl (cI, 3600, .inl rw)), (a1, .inl (cI, 2, .inl ct)), (a2, .inl (cI, 1800, .inl dr)), (a3, .inl (cB, 3000, .inl tp)), (a5, .inl (cJ, 6, .inr (.inl nu))), (a6, .inl (cJ, 6, .inr (.inl la)))] H := hP
  have hD : va_D A [(h0, .inr (9, [.int 0, .ref a0, .ref a1, .ref a2, .int dc, .ref a3, .int tl, .ref a4, .int xl, .int fo, .int fa, .ref a5, .int mn, .ref a6, .int ft, .ref a7, .int wl])), (a0, .inl (cI, 3600, .inl rw)), (a1, .inl (cI, 2, .inl ct)), (a2, .inl (cI, 1800, .inl dr)), (a3, .inl (cB, 3000, .inl tp)), (a5, .inl (cJ, 6, .inr (.inl nu))), (a6, .inl (cJ, 6, .inr (.inl la)))] := hD
  refine lv_aload_n hx hb dX9_read_5 rfl (lv_at hl 0 rfl) ?_
  refine va_get (D := (dC, dI)) (ci := 9) (v := .int tl) (C := RX9) (T := TX9) (N := 17) hx hb hts inc_X9_read_9 hown hG.1 hP 0 rfl rfl 6 (by decide) (hts (.fieldLink RX9 30 "MappingDeskModel" "tapeLen" "I") (by decide +kernel)) (fun _ h9 => h9) rfl dX9_read_6 ?_
  refine lv_istore_n (lv' := [(2, .int tl), (0, .ref h0), (1, .int x)]) hx hb dX9_read_9 rfl hl (by decide) rfl (fun ls hl => ?_)
  refine lv_aload_n hx hb dX9_read_10 rfl (lv_at hl 1 rfl) ?_
  refine lv_iconst (v := 0) hx hb dX9_read_11 (by decide) ?_
  refine va_put (D := (dC, dI)) (ci := 9) (v := .int 0) (ty := .int) (C := RX9) (T := TX9) (N := 17) hx hb hts inc_X9_read_9 tyX9 tyX9_ok nmX9 hown hG.1 hP hD hS 0 rfl rfl 6 (by decide) (hts (.fieldLink RX9 30 "MappingDeskModel" "tapeLen" "I") (by decide +kernel)) (fun _ h9 => h9) rfl (by decide +kernel) rfl rfl (Nat.le_of_ble_eq_true rfl) dX9_read_12 (fun H locs hP hD hS => ?_)
  have hP : va_P (dC, dI) vwCl [(h0, .inr (9, [.int 0, .ref a0, .ref a1, .ref a2, .int dc, .ref a3, .int 0, .ref a4, .int xl, .int fo, .int fa, .ref a5, .int mn, .ref a6, .int ft, .ref a7, .int wl])), (a0, .inl (cI, 3600, .inl rw)), (a1, .inl (cI, 2, .inl ct)), (a2, .inl (cI, 1800, .inl dr)), (a3, .inl (cB, 3000, .inl tp)), (a5, .inl (cJ, 6, .inr (.inl nu))), (a6, .inl (cJ, 6, .inr (.inl la)))] H := hP
  have hD : va_D A [(h0, .inr (9, [.int 0, .ref a0, .ref a1, .ref a2, .int dc, .ref a3, .int 0, .ref a4, .int xl, .int fo, .int fa, .ref a5, .int mn, .ref a6, .int ft, .ref a7, .int wl])), (a0, .inl (cI, 3600, .inl rw)), (a1, .inl (cI, 2, .inl ct)), (a2, .inl (cI, 1800, .inl dr)), (a3, .inl (cB, 3000, .inl tp)), (a5, .inl (cJ, 6, .inr (.inl nu))), (a6, .inl (cJ, 6, .inr (.inl la)))] := hD
  refine lv_aload_n hx hb dX9_read_15 rfl (lv_at hl 1 rfl) ?_
  refine lv_iconst (v := 0) hx hb dX9_read_16 (by decide) ?_
  refine va_put (D := (dC, dI)) (ci := 9) (v := .int 0) (ty := .int) (C := RX9) (T := TX9) (N := 17) hx hb hts inc_X9_read_9 tyX9 tyX9_ok nmX9 hown hG.1 hP hD hS 0 rfl rfl 9 (by decide) (hts (.fieldLink RX9 39 "MappingDeskModel" "faultOf" "I") (by decide +kernel)) (fun _ h9 => h9) rfl (by decide +kernel) rfl rfl (Nat.le_of_ble_eq_true rfl) dX9_read_17 (fun H locs hP hD hS => ?_)
  have hP : va_P (dC, dI) vwCl [(h0, .inr (9, [.int 0, .ref a0, .ref a1, .ref a2, .int dc, .ref a3, .int 0, .ref a4, .int xl, .int 0, .int fa, .ref a5, .int mn, .ref a6, .int ft, .ref a7, .int wl])), (a0, .inl (cI, 3600, .inl rw)), (a1, .inl (cI, 2, .inl ct)), (a2, .inl (cI, 1800, .inl dr)), (a3, .inl (cB, 3000, .inl tp)), (a5, .inl (cJ, 6, .inr (.inl nu))), (a6, .inl (cJ, 6, .inr (.inl la)))] H := hP
  have hD : va_D A [(h0, .inr (9, [.int 0, .ref a0, .ref a1, .ref a2, .int dc, .ref a3, .int 0, .ref a4, .int xl, .int 0, .int fa, .ref a5, .int mn, .ref a6, .int ft, .ref a7, .int wl])), (a0, .inl (cI, 3600, .inl rw)), (a1, .inl (cI, 2, .inl ct)), (a2, .inl (cI, 1800, .inl dr)), (a3, .inl (cB, 3000, .inl tp)), (a5, .inl (cJ, 6, .inr (.inl nu))), (a6, .inl (cJ, 6, .inr (.inl la)))] := hD
  refine lv_iload_n hx hb dX9_read_20 rfl (lv_at hl 2 rfl) ?_
  refine lv_if_lt (tgt := 29) hx hb dX9_read_21 (by decide) (fun c_54 => ?_) (fun c_54 => ?_)
  · rw [if_pos c_54] at hR
    refine lv_iconst (v := (-1)) hx hb dX9_read_29 (by decide) ?_
    subst hR
    exact W.iret (v := (-1)) hx hb hr (fun t ht hW => ⟨⟨(-1), (), rfl, rfl, by rw [ht]; exact hP, hD⟩, hS.F ht⟩) hS.2.2 dX9_read_30
  · rw [if_neg c_54] at hR
    refine lv_iload_n hx hb dX9_read_24 rfl (lv_at hl 2 rfl) ?_
    refine lv_iconst (v := 1) hx hb dX9_read_25 (by decide) ?_
    refine lv_icmp_le (tgt := 31) hx hb dX9_read_26 (by decide) (fun c_55 => ?_) (fun c_55 => ?_)
    · rw [if_pos c_55] at hR
      refine lv_aload_n hx hb dX9_read_31 rfl (lv_at hl 1 rfl) ?_
      refine lv_iload_n hx hb dX9_read_32 rfl (lv_at hl 0 rfl) ?_
      have p_56 : 0 ≤ tl.toInt := by
        first | exact ht0 | assumption
      have p_57 : tl.toInt ≤ 3000 := by
        first | exact ht1 | assumption
      have hPc := hP.sub (ws' := [(h0, .inr (9, [.int 0, .ref a0, .ref a1, .ref a2, .int dc, .ref a3, .int 0, .ref a4, .int xl, .int 0, .int fa, .ref a5, .int mn, .ref a6, .int ft, .ref a7, .int wl])), (a2, .inl (cI, 1800, .inl dr)), (a3, .inl (cB, 3000, .inl tp)), (a5, .inl (cJ, 6, .inr (.inl nu))), (a6, .inl (cJ, 6, .inr (.inl la)))]) [0, 3, 4, 5, 6] rfl
      have hDc := hD.sub (ws' := [(h0, .inr (9, [.int 0, .ref a0, .ref a1, .ref a2, .int dc, .ref a3, .int 0, .ref a4, .int xl, .int 0, .int fa, .ref a5, .int mn, .ref a6, .int ft, .ref a7, .int wl])), (a2, .inl (cI, 1800, .inl dr)), (a3, .inl (cB, 3000, .inl tp)), (a5, .inl (cJ, 6, .inr (.inl nu))), (a6, .inl (cJ, 6, .inr (.inl la)))]) [0, 3, 4, 5, 6] (by decide) rfl
      have hFc := va_free (wc := [(h0, .inr (9, [.int 0, .ref a0, .ref a1, .ref a2, .int dc, .ref a3, .int 0, .ref a4, .int xl, .int 0, .int fa, .ref a5, .int mn, .ref a6, .int ft, .ref a7, .int wl])), (a2, .inl (cI, 1800, .inl dr)), (a3, .inl (cB, 3000, .inl tp)), (a5, .inl (cJ, 6, .inr (.inl nu))), (a6, .inl (cJ, 6, .inr (.inl la)))]) hD hS hA [0, 3, 4, 5, 6] rfl
      refine va_calli (va_runV (As := [.int tl]) (rest := []) ⟨hx, hb, hml, hown, hts⟩ (c_X9_readAll l dC dI cB cC cI cJ H.size h0 a0 a1 a2 a3 a4 a5 a6 a7 0 dc 0 xl 0 fa mn ft wl dr tp nu la tl p_56 p_57) (cwV 1 hts gX9_read_X9_readAll rfl rfl rfl (by decide +kernel) ⟨(Nat.le_of_ble_eq_true rfl), (Nat.le_of_ble_eq_true rfl)⟩) ⟨cP_blind, va_recv hG.1 hPc (ci := 9) (q0 := 0) rfl rfl, cP_pre hPc hG hDc⟩ rfl rfl hl.1 rfl (lv_room (Nat.le_of_ble_eq_true rfl)) dX9_read_33 ⟨Nat.le_of_ble_eq_true rfl, Nat.le_of_ble_eq_true rfl⟩) hS (fun q _ h => hFc q h) hFc (fun r_58v u t H1 locs ht hvm hw hB hz1 hk1 hS => ?_)
      obtain ⟨hP1, hD1⟩ := hB
      rw [ht] at hP1
      generalize hr_58 : fX9_readAll 0 dc 0 xl 0 fa mn ft wl dr tp nu la tl = r_58 at hP1 hD1 hw
      obtain ⟨hw, er_58_0⟩ := hw
      rw [bnd_eq hr_58] at hR
      subst hw
      obtain ⟨hP, hD⟩ := va_join (wr := [(a0, .inl (cI, 3600, .inl rw)), (a1, .inl (cI, 2, .inl ct))]) (w1 := [(h0, .inr (9, [.int 0, .ref a0, .ref a1, .ref a2, .int r_58.2.1, .ref a3, .int 0, .ref a4, .int xl, .int r_58.2.2.1, .int r_58.2.2.2.1, .ref a5, .int r_58.2.2.2.2.1, .ref a6, .int ft, .ref a7, .int wl])), (a2, .inl (cI, 1800, .inl r_58.2.2.2.2.2.1)), (a3, .inl (cB, 3000, .inl tp)), (a5, .inl (cJ, 6, .inr (.inl r_58.2.2.2.2.2.2.1))), (a6, .inl (cJ, 6, .inr (.inl r_58.2.2.2.2.2.2.2)))]) hP hD [0, 3, 4, 5, 6] [1, 2] rfl rfl (by decide) (by decide) hk1 hFc hP1 hD1
      generalize H1 = H at hP hS ⊢
      have hP := hP.sub (ws' := [(h0, .inr (9, [.int 0, .ref a0, .ref a1, .ref a2, .int r_58.2.1, .ref a3, .int 0, .ref a4, .int xl, .int r_58.2.2.1, .int r_58.2.2.2.1, .ref a5, .int r_58.2.2.2.2.1, .ref a6, .int ft, .ref a7, .int wl])), (a0, .inl (cI, 3600, .inl rw)), (a1, .inl (cI, 2, .inl ct)), (a2, .inl (cI, 1800, .inl r_58.2.2.2.2.2.1)), (a3, .inl (cB, 3000, .inl tp)), (a5, .inl (cJ, 6, .inr (.inl r_58.2.2.2.2.2.2.1))), (a6, .inl (cJ, 6, .inr (.inl r_58.2.2.2.2.2.2.2)))]) [2, 0, 1, 3, 4, 5, 6] rfl
      have hD := hD.sub (ws' := [(h0, .inr (9, [.int 0, .ref a0, .ref a1, .ref a2, .int r_58.2.1, .ref a3, .int 0, .ref a4, .int xl, .int r_58.2.2.1, .int r_58.2.2.2.1, .ref a5, .int r_58.2.2.2.2.1, .ref a6, .int ft, .ref a7, .int wl])), (a0, .inl (cI, 3600, .inl rw)), (a1, .inl (cI, 2, .inl ct)), (a2, .inl (cI, 1800, .inl r_58.2.2.2.2.2.1)), (a3, .inl (cB, 3000, .inl tp)), (a5, .inl (cJ, 6, .inr (.inl r_58.2.2.2.2.2.2.1))), (a6, .inl (cJ, 6, .inr (.inl r_58.2.2.2.2.2.2.2)))]) [2, 0, 1, 3, 4, 5, 6] (by decide) rfl
      refine lv_if_ne (tgt := 47) hx hb dX9_read_36 (by decide) (fun c_59 => ?_) (fun c_59 => ?_)
      · rw [if_neg c_59] at hR
        refine lv_iconst (v := 0) hx hb dX9_read_47 (by decide) ?_
        refine lv_istore_n (lv' := [(3, .int 0), (2, .int tl), (0, .ref h0), (1, .int x)]) hx hb dX9_read_48 rfl hl (by decide) rfl (fun ls hl => ?_)
        have v_65 : 0 ≤ x.toInt := by
          have k_66 : (0 : Int32).toInt = 0 := by decide
          have q_67 := i_nlt c_54
          have k_68 : (1 : Int32).toInt = 1 := by decide
          have q_69 := i_le c_55
          have q_70 := i_ne c_59
          try generalize Int32.toInt r_58.2.1 = z0 at *
          try generalize Int32.toInt r_58.1 = z1 at *
          try generalize Int32.toInt tl = z2 at *
          try generalize Int32.toInt (0 : Int32) = z3 at *
          try generalize Int32.toInt (1 : Int32) = z4 at *
          try generalize Int32.toInt x = z5 at *
          omega
        have v_71 : x.toInt ≤ 1 := by
          have k_72 : (0 : Int32).toInt = 0 := by decide
          have q_73 := i_nlt c_54
          have k_74 : (1 : Int32).toInt = 1 := by decide
          have q_75 := i_le c_55
          have q_76 := i_ne c_59
          try generalize Int32.toInt r_58.2.1 = z0 at *
          try generalize Int32.toInt r_58.1 = z1 at *
          try generalize Int32.toInt tl = z2 at *
          try generalize Int32.toInt (0 : Int32) = z3 at *
          try generalize Int32.toInt (1 : Int32) = z4 at *
          try generalize Int32.toInt x = z5 at *
          omega
        have v_77 : 0 ≤ (0 : Int32).toInt := by
          have k_78 : (0 : Int32).toInt = 0 := by decide
          have q_79 := i_nlt c_54
          have k_80 : (1 : Int32).toInt = 1 := by decide
          have q_81 := i_le c_55
          have q_82 := i_ne c_59
          try generalize Int32.toInt r_58.2.1 = z0 at *
          try generalize Int32.toInt r_58.1 = z1 at *
          try generalize Int32.toInt tl = z2 at *
          try generalize Int32.toInt (0 : Int32) = z3 at *
          try generalize Int32.toInt (1 : Int32) = z4 at *
          try generalize Int32.toInt x = z5 at *
          omega
        have v_83 : (0 : Int32).toInt ≤ 1800 := by
          have k_84 : (0 : Int32).toInt = 0 := by decide
          have q_85 := i_nlt c_54
          have k_86 : (1 : Int32).toInt = 1 := by decide
          have q_87 := i_le c_55
          have q_88 := i_ne c_59
          try generalize Int32.toInt r_58.2.1 = z0 at *
          try generalize Int32.toInt r_58.1 = z1 at *
          try generalize Int32.toInt tl = z2 at *
          try generalize Int32.toInt (0 : Int32) = z3 at *
          try generalize Int32.toInt (1 : Int32) = z4 at *
          try generalize Int32.toInt x = z5 at *
          omega
        have v_89 : 0 ≤ r_58.2.1.toInt := by
          have k_90 : (0 : Int32).toInt = 0 := by decide
          have q_91 := i_nlt c_54
          have k_92 : (1 : Int32).toInt = 1 := by decide
          have q_93 := i_le c_55
          have q_94 := i_ne c_59
          try generalize Int32.toInt r_58.2.1 = z0 at *
          try generalize Int32.toInt r_58.1 = z1 at *
          try generalize Int32.toInt tl = z2 at *
          try generalize Int32.toInt (0 : Int32) = z3 at *
          try generalize Int32.toInt (1 : Int32) = z4 at *
          try generalize Int32.toInt x = z5 at *
          omega
        have v_95 : r_58.2.1.toInt ≤ 300 := by
          have k_96 : (0 : Int32).toInt = 0 := by decide
          have q_97 := i_nlt c_54
          have k_98 : (1 : Int32).toInt = 1 := by decide
          have q_99 := i_le c_55
          have q_100 := i_ne c_59
          try generalize Int32.toInt r_58.2.1 = z0 at *
          try generalize Int32.toInt r_58.1 = z1 at *
          try generalize Int32.toInt tl = z2 at *
          try generalize Int32.toInt (0 : Int32) = z3 at *
          try generalize Int32.toInt (1 : Int32) = z4 at *
          try generalize Int32.toInt x = z5 at *
          omega
        have v_101 : 1800 - (0 : Int32).toInt < ((1801 : Nat) : Int) := by
          have k_102 : (0 : Int32).toInt = 0 := by decide
          have q_103 := i_nlt c_54
          have k_104 : (1 : Int32).toInt = 1 := by decide
          have q_105 := i_le c_55
          have q_106 := i_ne c_59
          try generalize Int32.toInt r_58.2.1 = z0 at *
          try generalize Int32.toInt r_58.1 = z1 at *
          try generalize Int32.toInt tl = z2 at *
          try generalize Int32.toInt (0 : Int32) = z3 at *
          try generalize Int32.toInt (1 : Int32) = z4 at *
          try generalize Int32.toInt x = z5 at *
          omega
        exact loop_49 1801 (0) (rw) (r_58.2.1) (r_58.2.2.1) (r_58.2.2.2.1) (r_58.2.2.2.2.1) (r_58.2.2.2.2.2.1) (r_58.2.2.2.2.2.2.1) (r_58.2.2.2.2.2.2.2) _ _ ls hR v_65 v_71 v_77 v_83 v_89 v_95 v_101 hP hD hS (lv_sub hl [2, 3, 1, 0] rfl)
      · rw [if_pos c_59] at hR
        refine lv_bipush (v := (-2)) hx hb dX9_read_39 (by decide) ?_
        refine lv_aload_n hx hb dX9_read_41 rfl (lv_at hl 1 rfl) ?_
        refine va_get (D := (dC, dI)) (ci := 9) (v := .int r_58.2.2.2.1) (C := RX9) (T := TX9) (N := 17) hx hb hts inc_X9_read_9 hown hG.1 hP 0 rfl rfl 10 (by decide) (hts (.fieldLink RX9 42 "MappingDeskModel" "faultAt" "I") (by decide +kernel)) (fun _ h9 => h9) rfl dX9_read_42 ?_
        refine lv_isub hx hb dX9_read_45 ?_
        subst hR
        exact W.iret (v := ((-2) - r_58.2.2.2.1)) hx hb hr (fun t ht hW => ⟨⟨((-2) - r_58.2.2.2.1), (), rfl, rfl, by rw [ht]; exact hP, hD⟩, hS.F ht⟩) hS.2.2 dX9_read_46
    · rw [if_neg c_55] at hR
      refine lv_iconst (v := (-1)) hx hb dX9_read_29 (by decide) ?_
      subst hR
      exact W.iret (v := (-1)) hx hb hr (fun t ht hW => ⟨⟨(-1), (), rfl, rfl, by rw [ht]; exact hP, hD⟩, hS.F ht⟩) hS.2.2 dX9_read_30
