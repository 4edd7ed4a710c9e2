/-! the class's reading beside the reference's -/
abbrev RS : Type := Int32 × Int32 × Int32 × Int32 × Int32 × Int32 × Int32 × Int32 × Int64 × Int32 × Int32 × (Nat → Int64) × Int32 × Int32 × Int32 × Int32 × Int32 × Int32 × Int32 × Int32 × Int32 × Int32 × Int32 × Int32 × (Nat → Int32) × (Nat → Int32) × (Nat → Int32) × (Nat → Int32) × (Nat → Int32) × (Nat → Int32)
abbrev s_nc (S : RS) : Int32 := S.1
abbrev s_ss (S : RS) : Int32 := S.2.1
abbrev s_ib (S : RS) : Int32 := S.2.2.1
abbrev s_li (S : RS) : Int32 := S.2.2.2.1
abbrev s_ff (S : RS) : Int32 := S.2.2.2.2.1
abbrev s_fp (S : RS) : Int32 := S.2.2.2.2.2.1
abbrev s_n0 (S : RS) : Int32 := S.2.2.2.2.2.2.1
abbrev s_n1 (S : RS) : Int32 := S.2.2.2.2.2.2.2.1
abbrev s_n2 (S : RS) : Int64 := S.2.2.2.2.2.2.2.2.1
abbrev s_n3 (S : RS) : Int32 := S.2.2.2.2.2.2.2.2.2.1
abbrev s_n4 (S : RS) : Int32 := S.2.2.2.2.2.2.2.2.2.2.1
abbrev s_nb (S : RS) : Nat → Int64 := S.2.2.2.2.2.2.2.2.2.2.2.1
abbrev s_a0 (S : RS) : Int32 := S.2.2.2.2.2.2.2.2.2.2.2.2.1
abbrev s_a1 (S : RS) : Int32 := S.2.2.2.2.2.2.2.2.2.2.2.2.2.1
abbrev s_a2 (S : RS) : Int32 := S.2.2.2.2.2.2.2.2.2.2.2.2.2.2.1
abbrev s_a3 (S : RS) : Int32 := S.2.2.2.2.2.2.2.2.2.2.2.2.2.2.2.1
abbrev s_a4 (S : RS) : Int32 := S.2.2.2.2.2.2.2.2.2.2.2.2.2.2.2.2.1
abbrev s_g0 (S : RS) : Int32 := S.2.2.2.2.2.2.2.2.2.2.2.2.2.2.2.2.2.1
abbrev s_g1 (S : RS) : Int32 := S.2.2.2.2.2.2.2.2.2.2.2.2.2.2.2.2.2.2.1
abbrev s_g2 (S : RS) : Int32 := S.2.2.2.2.2.2.2.2.2.2.2.2.2.2.2.2.2.2.2.1
abbrev s_g3 (S : RS) : Int32 := S.2.2.2.2.2.2.2.2.2.2.2.2.2.2.2.2.2.2.2.2.1
abbrev s_g4 (S : RS) : Int32 := S.2.2.2.2.2.2.2.2.2.2.2.2.2.2.2.2.2.2.2.2.2.1
abbrev s_g5 (S : RS) : Int32 := S.2.2.2.2.2.2.2.2.2.2.2.2.2.2.2.2.2.2.2.2.2.2.1
abbrev s_cn (S : RS) : Int32 := S.2.2.2.2.2.2.2.2.2.2.2.2.2.2.2.2.2.2.2.2.2.2.2.1
abbrev s_t0 (S : RS) : Nat → Int32 := S.2.2.2.2.2.2.2.2.2.2.2.2.2.2.2.2.2.2.2.2.2.2.2.2.1
abbrev s_t1 (S : RS) : Nat → Int32 := S.2.2.2.2.2.2.2.2.2.2.2.2.2.2.2.2.2.2.2.2.2.2.2.2.2.1
abbrev s_t2 (S : RS) : Nat → Int32 := S.2.2.2.2.2.2.2.2.2.2.2.2.2.2.2.2.2.2.2.2.2.2.2.2.2.2.1
abbrev s_t3 (S : RS) : Nat → Int32 := S.2.2.2.2.2.2.2.2.2.2.2.2.2.2.2.2.2.2.2.2.2.2.2.2.2.2.2.1
abbrev s_t4 (S : RS) : Nat → Int32 := S.2.2.2.2.2.2.2.2.2.2.2.2.2.2.2.2.2.2.2.2.2.2.2.2.2.2.2.2.1
abbrev s_t5 (S : RS) : Nat → Int32 := S.2.2.2.2.2.2.2.2.2.2.2.2.2.2.2.2.2.2.2.2.2.2.2.2.2.2.2.2.2
def s_tk (S : RS) (x y : Int32) : RS := fX2_takeCharacter (s_nc S) (s_ss S) (s_ib S) (s_li S) (s_ff S) (s_fp S) (s_n0 S) (s_n1 S) (s_n2 S) (s_n3 S) (s_n4 S) (s_nb S) (s_a0 S) (s_a1 S) (s_a2 S) (s_a3 S) (s_a4 S) (s_g0 S) (s_g1 S) (s_g2 S) (s_g3 S) (s_g4 S) (s_g5 S) (s_cn S) (s_t0 S) (s_t1 S) (s_t2 S) (s_t3 S) (s_t4 S) (s_t5 S) x y
abbrev EO : Type := Int32 × Int32 × Int32 × Int32 × Int32 × Int32 × Int32 × Int32 × Int32 × Int32 × Int32 × Int32 × Int32 × Int32 × Int32 × (Nat → Int32) × (Nat → Int32) × (Nat → Int32) × (Nat → Int32) × (Nat → Int32) × (Nat → Int32)
def s_es (S : RS) (x y : Int32) : EO := fX2_endSegment (s_nc S) (s_ss S) (s_ib S) (s_li S) (s_ff S) (s_fp S) (s_n0 S) (s_n1 S) (s_n2 S) (s_n3 S) (s_n4 S) (s_nb S) (s_a0 S) (s_a1 S) (s_a2 S) (s_a3 S) (s_a4 S) (s_g0 S) (s_g1 S) (s_g2 S) (s_g3 S) (s_g4 S) (s_g5 S) (s_cn S) (s_t0 S) (s_t1 S) (s_t2 S) (s_t3 S) (s_t4 S) (s_t5 S) x y
def s_fin (S : RS) (r : EO) : RS := (r.1, s_ss S, s_ib S, s_li S, r.2.1, r.2.2.1, s_n0 S, s_n1 S, s_n2 S, s_n3 S, s_n4 S, s_nb S, r.2.2.2.1, r.2.2.2.2.1, r.2.2.2.2.2.1, r.2.2.2.2.2.2.1, r.2.2.2.2.2.2.2.1, r.2.2.2.2.2.2.2.2.1, r.2.2.2.2.2.2.2.2.2.1, r.2.2.2.2.2.2.2.2.2.2.1, r.2.2.2.2.2.2.2.2.2.2.2.1, r.2.2.2.2.2.2.2.2.2.2.2.2.1, r.2.2.2.2.2.2.2.2.2.2.2.2.2.1, r.2.2.2.2.2.2.2.2.2.2.2.2.2.2.1, r.2.2.2.2.2.2.2.2.2.2.2.2.2.2.2.1, r.2.2.2.2.2.2.2.2.2.2.2.2.2.2.2.2.1, r.2.2.2.2.2.2.2.2.2.2.2.2.2.2.2.2.2.1, r.2.2.2.2.2.2.2.2.2.2.2.2.2.2.2.2.2.2.1, r.2.2.2.2.2.2.2.2.2.2.2.2.2.2.2.2.2.2.2.1, r.2.2.2.2.2.2.2.2.2.2.2.2.2.2.2.2.2.2.2.2)
def s_rt (D : RS) (bt : Nat → Int32) (ln : Int32) (n : Nat) (k : Int32) (S : RS) : RS := fX2_readTape_6 (s_nc D) (s_ss D) (s_ib D) (s_li D) (s_ff D) (s_fp D) (s_n0 D) (s_n1 D) (s_n2 D) (s_n3 D) (s_n4 D) (s_nb D) (s_a0 D) (s_a1 D) (s_a2 D) (s_a3 D) (s_a4 D) (s_g0 D) (s_g1 D) (s_g2 D) (s_g3 D) (s_g4 D) (s_g5 D) (s_cn D) (s_t0 D) (s_t1 D) (s_t2 D) (s_t3 D) (s_t4 D) (s_t5 D) bt ln n k (s_nc S) (s_ss S) (s_ib S) (s_li S) (s_ff S) (s_fp S) (s_n0 S) (s_n1 S) (s_n2 S) (s_n3 S) (s_n4 S) (s_nb S) (s_a0 S) (s_a1 S) (s_a2 S) (s_a3 S) (s_a4 S) (s_g0 S) (s_g1 S) (s_g2 S) (s_g3 S) (s_g4 S) (s_g5 S) (s_cn S) (s_t0 S) (s_t1 S) (s_t2 S) (s_t3 S) (s_t4 S) (s_t5 S)
theorem s_rt_succ (D : RS) (bt : Nat → Int32) (ln : Int32) (n : Nat) (k : Int32) (S : RS) : s_rt D bt ln (n + 1) k S = if ln ≤ k then (if s_ff S = 0 then s_fin S (s_es S 0 ln) else S) else (if s_ff S = 0 then s_rt D bt ln n (k + 1) (s_tk S (fX5_characterAt bt ln k) k) else S) := by
  unfold s_rt
  rw [fX2_readTape_6]
  rfl
def s_ch (b : Int32) : Int32 := (((((b) &&& 255) : Int32).toUInt32 % 65536).toInt32)
def s_chP (b : Int32) : Bool := decide (fJ0_indexOf_0f7a4 (s_ch b) = fX9_worth b) && (decide (s_ch b = 44) == decide (b = 44)) && (decide (s_ch b = 59) == decide (b = 59)) && decide (b = 44 → fX9_worth b = -1) && decide (b = 59 → fX9_worth b = -1)
set_option maxRecDepth 100000 in
theorem s_chAll : ∀ i : Nat, i < 256 → s_chP (Int32.ofInt ((i : Int) - 128)) = true := by decide +kernel
