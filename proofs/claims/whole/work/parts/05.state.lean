theorem fa_lt (a b : Int32) : a < b ↔ a.toInt < b.toInt := Int32.lt_iff_toInt_lt
theorem fa_le (a b : Int32) : a ≤ b ↔ a.toInt ≤ b.toInt := Int32.le_iff_toInt_le
theorem fa_eq (a b : Int32) : a = b ↔ a.toInt = b.toInt := Int32.toInt_inj.symm
theorem fa_lt64 (a b : Int64) : a < b ↔ a.toInt < b.toInt := Int64.lt_iff_toInt_lt
theorem fa_le64 (a b : Int64) : a ≤ b ↔ a.toInt ≤ b.toInt := Int64.le_iff_toInt_le
theorem fa_eq64 (a b : Int64) : a = b ↔ a.toInt = b.toInt := Int64.toInt_inj.symm
/-- a comparison of two ints taken as longs -/
theorem fa_wide_lt (a b : Int32) : a.toInt64 < b.toInt64 ↔ a < b := by rw [fa_lt64, fa_lt, Int32.toInt_toInt64, Int32.toInt_toInt64]
theorem fa_wide_le (a b : Int32) : a.toInt64 ≤ b.toInt64 ↔ a ≤ b := by rw [fa_le64, fa_le, Int32.toInt_toInt64, Int32.toInt_toInt64]
theorem fa_wide_eq (a b : Int32) : a.toInt64 = b.toInt64 ↔ a = b := by rw [fa_eq64, fa_eq, Int32.toInt_toInt64, Int32.toInt_toInt64]
/-- one strict comparison gives all the others -/
theorem fa_of_lt {a b : Int32} (h : a < b) : a ≤ b ∧ ¬ b ≤ a ∧ ¬ b < a ∧ a ≠ b ∧ b ≠ a := by
  rw [fa_lt] at h
  refine ⟨?_, ?_, ?_, ?_, ?_⟩
  · rw [fa_le]; omega
  · rw [fa_le]; omega
  · rw [fa_lt]; omega
  · intro e; rw [fa_eq] at e; omega
  · intro e; rw [fa_eq] at e; omega
theorem fa_of_nlt {a b : Int32} (h : ¬ a < b) : b ≤ a := by
  rw [fa_lt] at h
  rw [fa_le]
  omega
theorem fa_of_nle {a b : Int32} (h : ¬ a ≤ b) : b < a := by
  rw [fa_le] at h
  rw [fa_lt]
  omega
theorem fa_le_ne {a b : Int32} (h : a ≤ b) (h2 : a ≠ b) : a < b := by
  rw [fa_le] at h
  rw [fa_lt]
  have h3 : a.toInt ≠ b.toInt := fun e => h2 ((fa_eq a b).mpr e)
  omega
theorem fa_three (a b : Int32) : a < b ∨ a = b ∨ b < a := by
  rw [fa_lt, fa_lt, fa_eq]
  omega
theorem fa_trans {a b c : Int32} (h : a < b) (h2 : b ≤ c) : a < c := by
  rw [fa_lt] at *
  rw [fa_le] at h2
  omega
/-! ===== signed ints as whole numbers, within bounds ===== -/
theorem fb_rng (x : Int32) : -2147483648 ≤ x.toInt ∧ x.toInt < 2147483648 := by
  have h1 := Int32.le_toInt x
  have h2 := Int32.toInt_lt x
  omega
theorem fb_bmod {z : Int} (h1 : -2147483648 ≤ z) (h2 : z < 2147483648) : z.bmod (2 ^ 32) = z := by
  rw [Int.bmod_eq_of_le (by omega) (by omega)]
theorem fb_addI {x y : Int32} (h1 : -2147483648 ≤ x.toInt + y.toInt) (h2 : x.toInt + y.toInt < 2147483648) : (x + y).toInt = x.toInt + y.toInt := by
  rw [Int32.toInt_add, fb_bmod h1 h2]
theorem fb_subI {x y : Int32} (h1 : -2147483648 ≤ x.toInt - y.toInt) (h2 : x.toInt - y.toInt < 2147483648) : (x - y).toInt = x.toInt - y.toInt := by
  rw [Int32.toInt_sub, fb_bmod h1 h2]
theorem fb_mulI {x y : Int32} (h1 : -2147483648 ≤ x.toInt * y.toInt) (h2 : x.toInt * y.toInt < 2147483648) : (x * y).toInt = x.toInt * y.toInt := by
  rw [Int32.toInt_mul, fb_bmod h1 h2]
theorem fb_negI {x : Int32} (h : x.toInt ≠ -2147483648) : (-x).toInt = -x.toInt := by
  have := fb_rng x
  rw [Int32.toInt_neg, fb_bmod (by omega) (by omega)]
theorem fb_ofI {z : Int} (h1 : -2147483648 ≤ z) (h2 : z < 2147483648) : (Int32.ofInt z).toInt = z := by
  rw [Int32.toInt_ofInt, fb_bmod h1 h2]
theorem fb_asI (x : Int32) : Int32.ofInt x.toInt = x := Int32.ofInt_toInt x
theorem fb_rngL (x : Int64) : -9223372036854775808 ≤ x.toInt ∧ x.toInt < 9223372036854775808 := by
  have h1 := Int64.le_toInt x
  have h2 := Int64.toInt_lt x
  omega
theorem fb_bmodL {z : Int} (h1 : -9223372036854775808 ≤ z) (h2 : z < 9223372036854775808) : z.bmod (2 ^ 64) = z := by
  rw [Int.bmod_eq_of_le (by omega) (by omega)]
theorem fb_addL {x y : Int64} (h1 : -9223372036854775808 ≤ x.toInt + y.toInt) (h2 : x.toInt + y.toInt < 9223372036854775808) : (x + y).toInt = x.toInt + y.toInt := by
  rw [Int64.toInt_add, fb_bmodL h1 h2]
theorem fb_subL {x y : Int64} (h1 : -9223372036854775808 ≤ x.toInt - y.toInt) (h2 : x.toInt - y.toInt < 9223372036854775808) : (x - y).toInt = x.toInt - y.toInt := by
  rw [Int64.toInt_sub, fb_bmodL h1 h2]
theorem fb_mulL {x y : Int64} (h1 : -9223372036854775808 ≤ x.toInt * y.toInt) (h2 : x.toInt * y.toInt < 9223372036854775808) : (x * y).toInt = x.toInt * y.toInt := by
  rw [Int64.toInt_mul, fb_bmodL h1 h2]
/-! ===== cuts of what is narrow already ===== -/
theorem fb_byte {x : Int32} (h1 : -128 ≤ x.toInt) (h2 : x.toInt < 128) : x.toInt8.toInt32 = x := by
  apply Int32.toInt_inj.1
  rw [Int8.toInt_toInt32, Int32.toInt_toInt8, Int.bmod_eq_of_le (by omega) (by omega)]
theorem fb_short {x : Int32} (h1 : -32768 ≤ x.toInt) (h2 : x.toInt < 32768) : x.toInt16.toInt32 = x := by
  apply Int32.toInt_inj.1
  rw [Int16.toInt_toInt32, Int32.toInt_toInt16, Int.bmod_eq_of_le (by omega) (by omega)]
theorem fb_byte_rng (x : Int32) : -128 ≤ x.toInt8.toInt32.toInt ∧ x.toInt8.toInt32.toInt < 128 := by
  rw [Int8.toInt_toInt32]
  have h1 := Int8.le_toInt x.toInt8
  have h2 := Int8.toInt_lt x.toInt8
  omega
theorem fb_short_rng (x : Int32) : -32768 ≤ x.toInt16.toInt32.toInt ∧ x.toInt16.toInt32.toInt < 32768 := by
  rw [Int16.toInt_toInt32]
  have h1 := Int16.le_toInt x.toInt16
  have h2 := Int16.toInt_lt x.toInt16
  omega
theorem fb_byte_twice (x : Int32) : x.toInt8.toInt32.toInt8.toInt32 = x.toInt8.toInt32 := fb_byte (fb_byte_rng x).1 (fb_byte_rng x).2
theorem fb_short_twice (x : Int32) : x.toInt16.toInt32.toInt16.toInt32 = x.toInt16.toInt32 := fb_short (fb_short_rng x).1 (fb_short_rng x).2

/-! ===== own: counters ===== -/
theorem lp_s {p n : Int32} (c : ¬ n ≤ p) : (p + 1).toInt = p.toInt + 1 := by
  rw [fa_le] at c
  have h1 := fb_rng p
  have h2 := fb_rng n
  rw [fb_addI] <;> (rw [show (1 : Int32).toInt = 1 from rfl]) <;> omega
theorem lp_pre {p n : Int32} (h0 : 0 ≤ p.toInt) (c : ¬ n ≤ p) : 0 ≤ (p + 1).toInt := by
  rw [lp_s c]; omega
theorem lp_mu {p n : Int32} {k : Nat} (h0 : 0 ≤ p.toInt) (c : ¬ n ≤ p) (hk : (n.toInt - p.toInt).toNat < k + 1) : (n.toInt - (p + 1).toInt).toNat < k := by
  have h := lp_s c
  rw [fa_le] at c
  omega
theorem lp_in {p n : Int32} {N : Nat} (h0 : 0 ≤ p.toInt) (hn : n.toInt ≤ N) (c : ¬ n ≤ p) : vp_in p N := by
  rw [fa_le] at c
  exact vp_in_iff.mpr ⟨h0, by omega⟩
theorem in_of {x : Int32} {N : Nat} (h0 : 0 ≤ x.toInt) (h1 : x.toInt < N) : vp_in x N := vp_in_iff.mpr ⟨h0, h1⟩
theorem sw_out2 {x : Int32} (h0 : ¬ x = 0) (h1 : ¬ x = 1) : x.toInt < 0 ∨ 1 < x.toInt := by
  rw [fa_eq, show (0 : Int32).toInt = 0 from rfl] at h0
  rw [fa_eq, show (1 : Int32).toInt = 1 from rfl] at h1
  omega
theorem sw_out3 {x : Int32} (h0 : ¬ x = 0) (h1 : ¬ x = 1) (h2 : ¬ x = 2) : x.toInt < 0 ∨ 2 < x.toInt := by
  rw [fa_eq, show (0 : Int32).toInt = 0 from rfl] at h0
  rw [fa_eq, show (1 : Int32).toInt = 1 from rfl] at h1
  rw [fa_eq, show (2 : Int32).toInt = 2 from rfl] at h2
  omega
theorem sw_out4 {x : Int32} (h0 : ¬ x = 0) (h1 : ¬ x = 1) (h2 : ¬ x = 2) (h3 : ¬ x = 3) : x.toInt < 0 ∨ 3 < x.toInt := by
  rw [fa_eq, show (0 : Int32).toInt = 0 from rfl] at h0
  rw [fa_eq, show (1 : Int32).toInt = 1 from rfl] at h1
  rw [fa_eq, show (2 : Int32).toInt = 2 from rfl] at h2
  rw [fa_eq, show (3 : Int32).toInt = 3 from rfl] at h3
  omega
theorem sw_out5 {x : Int32} (h0 : ¬ x = 0) (h1 : ¬ x = 1) (h2 : ¬ x = 2) (h3 : ¬ x = 3) (h4 : ¬ x = 4) : x.toInt < 0 ∨ 4 < x.toInt := by
  rw [fa_eq, show (0 : Int32).toInt = 0 from rfl] at h0
  rw [fa_eq, show (1 : Int32).toInt = 1 from rfl] at h1
  rw [fa_eq, show (2 : Int32).toInt = 2 from rfl] at h2
  rw [fa_eq, show (3 : Int32).toInt = 3 from rfl] at h3
  rw [fa_eq, show (4 : Int32).toInt = 4 from rfl] at h4
  omega
theorem sw_out6 {x : Int32} (h0 : ¬ x = 0) (h1 : ¬ x = 1) (h2 : ¬ x = 2) (h3 : ¬ x = 3) (h4 : ¬ x = 4) (h5 : ¬ x = 5) : x.toInt < 0 ∨ 5 < x.toInt := by
  rw [fa_eq, show (0 : Int32).toInt = 0 from rfl] at h0
  rw [fa_eq, show (1 : Int32).toInt = 1 from rfl] at h1
  rw [fa_eq, show (2 : Int32).toInt = 2 from rfl] at h2
  rw [fa_eq, show (3 : Int32).toInt = 3 from rfl] at h3
  rw [fa_eq, show (4 : Int32).toInt = 4 from rfl] at h4
  rw [fa_eq, show (5 : Int32).toInt = 5 from rfl] at h5
  omega
theorem nz_of {p n : Int32} (h0 : 0 ≤ p.toInt) (c : ¬ n ≤ p) : ¬ n = 0 := by
  intro h
  rw [h, fa_le, show (0 : Int32).toInt = 0 from rfl] at c
  omega
theorem nz_le {x : Int32} (c : ¬ x ≤ 0) : ¬ x = 0 := by
  intro h
  rw [h] at c
  exact c (by decide)
theorem cl_lt {x n : Int32} (h0 : 0 ≤ x.toInt) (c : ¬ n ≤ x) : (x.toNatClampNeg : Int) < n.toInt := by
  rw [fa_le] at c
  rw [Int32.toNatClampNeg, Int.toNat_of_nonneg h0]
  omega
theorem in_c {x n : Int32} {N : Nat} (hn : n.toInt ≤ N) (c0 : ¬ x < 0) (c1 : ¬ n ≤ x) : vp_in x N := by
  rw [fa_lt, show (0 : Int32).toInt = 0 from rfl] at c0
  exact lp_in (by omega) hn c1
theorem rm_toInt {a n : Int32} (ha : 0 ≤ a.toInt) (hn : 0 < n.toInt) : (a - a / n * n).toInt = a.toInt % n.toInt := by
  obtain ⟨j, hj, rfl⟩ := nI_of (x := a) (by rw [fa_lt, show (0 : Int32).toInt = 0 from rfl]; omega)
  obtain ⟨d, hd, rfl⟩ := nI_of (x := n) (by rw [fa_lt, show (0 : Int32).toInt = 0 from rfl]; omega)
  rw [nI_toInt hd] at hn ⊢
  rw [nI_toInt hj, pk_rem hj (by omega) hd, nI_toInt (by have := Nat.mod_le j d; omega)]
  omega
theorem rem_in {a n : Int32} {N : Nat} (ha : 0 ≤ a.toInt) (h0 : 0 < n.toInt) (hn : n.toInt ≤ N) : vp_in (a - a / n * n) N := by
  have h := rm_toInt ha h0
  have h1 := Int.emod_nonneg a.toInt (show n.toInt ≠ 0 by omega)
  have h2 := Int.emod_lt_of_pos a.toInt h0
  exact vp_in_iff.mpr ⟨by rw [h]; exact h1, by rw [h]; omega⟩
/-- the place that comes step by step round the town -/
theorem rnd_in {a b n : Int32} (ha : vp_in a 6) (h0 : 0 ≤ b.toInt) (hn : n.toInt ≤ 6) (c : ¬ n ≤ b) : vp_in ((a + b) - (a + b) / n * n) 6 := by
  have h1 := vp_in_iff.mp ha
  rw [fa_le] at c
  have h2 : (a + b).toInt = a.toInt + b.toInt := fb_addI (by omega) (by omega)
  exact rem_in (by omega) (by omega) hn
theorem cnt6 (q : Int32) : (if (0 : Int32) < (if (6 : Int32) < q then (6 : Int32) else q) then (if (6 : Int32) < q then (6 : Int32) else q) else (0 : Int32)).toInt ≤ 6 := by
  by_cases h : (6 : Int32) < q
  · simp only [if_pos h]
    decide
  · simp only [if_neg h]
    rw [fa_lt, show (6 : Int32).toInt = 6 from rfl] at h
    split
    · omega
    · decide
theorem le6_mu {n : Int32} (h : n.toInt ≤ 6) : (n.toInt - (0 : Int32).toInt).toNat < 7 := by
  rw [show (0 : Int32).toInt = 0 from rfl]; omega
theorem in0 : vp_in 0 6 := vp_in_iff.mpr ⟨by decide, by decide⟩
abbrev RD : Type := (Nat → Int32) × (Nat → Int32) × (Nat → Int32) × Int32
abbrev R_person (t : RD) : (Nat → Int32) := t.1
abbrev R_parts (t : RD) : (Nat → Int32) := t.2.1
abbrev R_amount (t : RD) : (Nat → Int32) := t.2.2.1
abbrev R_count (t : RD) : Int32 := t.2.2.2
abbrev R_person' (t : RD) (v : (Nat → Int32)) : RD := (v, R_parts t, R_amount t, R_count t)
abbrev R_parts' (t : RD) (v : (Nat → Int32)) : RD := (R_person t, v, R_amount t, R_count t)
abbrev R_amount' (t : RD) (v : (Nat → Int32)) : RD := (R_person t, R_parts t, v, R_count t)
abbrev R_count' (t : RD) (v : Int32) : RD := (R_person t, R_parts t, R_amount t, v)
abbrev SH : Type := (Nat → Int32) × Int32 × Int32 × Int32
abbrev S_cells (t : SH) : (Nat → Int32) := t.1
abbrev S_lane (t : SH) : Int32 := t.2.1
abbrev S_length (t : SH) : Int32 := t.2.2.1
abbrev S_held (t : SH) : Int32 := t.2.2.2
abbrev S_cells' (t : SH) (v : (Nat → Int32)) : SH := (v, S_lane t, S_length t, S_held t)
abbrev S_lane' (t : SH) (v : Int32) : SH := (S_cells t, v, S_length t, S_held t)
abbrev S_length' (t : SH) (v : Int32) : SH := (S_cells t, S_lane t, v, S_held t)
abbrev S_held' (t : SH) (v : Int32) : SH := (S_cells t, S_lane t, S_length t, v)
abbrev TN : Type := (Nat → Int32) × (Nat → Int32) × (Nat → Int32) × Int32 × Int32 × Int32
abbrev T_kind (t : TN) : (Nat → Int32) := t.1
abbrev T_parts (t : TN) : (Nat → Int32) := t.2.1
abbrev T_thick (t : TN) : (Nat → Int32) := t.2.2.1
abbrev T_count (t : TN) : Int32 := t.2.2.2.1
abbrev T_inside (t : TN) : Int32 := t.2.2.2.2.1
abbrev T_tin (t : TN) : Int32 := t.2.2.2.2.2
abbrev T_kind' (t : TN) (v : (Nat → Int32)) : TN := (v, T_parts t, T_thick t, T_count t, T_inside t, T_tin t)
abbrev T_parts' (t : TN) (v : (Nat → Int32)) : TN := (T_kind t, v, T_thick t, T_count t, T_inside t, T_tin t)
abbrev T_thick' (t : TN) (v : (Nat → Int32)) : TN := (T_kind t, T_parts t, v, T_count t, T_inside t, T_tin t)
abbrev T_count' (t : TN) (v : Int32) : TN := (T_kind t, T_parts t, T_thick t, v, T_inside t, T_tin t)
abbrev T_inside' (t : TN) (v : Int32) : TN := (T_kind t, T_parts t, T_thick t, T_count t, v, T_tin t)
abbrev T_tin' (t : TN) (v : Int32) : TN := (T_kind t, T_parts t, T_thick t, T_count t, T_inside t, v)
abbrev XS : Type := (Nat → SH) × TN × TN × RD × Int32 × Int32 × Int32
abbrev X_sheets (t : XS) : (Nat → SH) := t.1
abbrev X_now (t : XS) : TN := t.2.1
abbrev X_then (t : XS) : TN := t.2.2.1
abbrev X_said (t : XS) : RD := t.2.2.2.1
abbrev X_daysGone (t : XS) : Int32 := t.2.2.2.2.1
abbrev X_traced (t : XS) : Int32 := t.2.2.2.2.2.1
abbrev X_latestFault (t : XS) : Int32 := t.2.2.2.2.2.2
abbrev X_sheets' (t : XS) (v : (Nat → SH)) : XS := (v, X_now t, X_then t, X_said t, X_daysGone t, X_traced t, X_latestFault t)
abbrev X_now' (t : XS) (v : TN) : XS := (X_sheets t, v, X_then t, X_said t, X_daysGone t, X_traced t, X_latestFault t)
abbrev X_then' (t : XS) (v : TN) : XS := (X_sheets t, X_now t, v, X_said t, X_daysGone t, X_traced t, X_latestFault t)
abbrev X_said' (t : XS) (v : RD) : XS := (X_sheets t, X_now t, X_then t, v, X_daysGone t, X_traced t, X_latestFault t)
abbrev X_daysGone' (t : XS) (v : Int32) : XS := (X_sheets t, X_now t, X_then t, X_said t, v, X_traced t, X_latestFault t)
abbrev X_traced' (t : XS) (v : Int32) : XS := (X_sheets t, X_now t, X_then t, X_said t, X_daysGone t, v, X_latestFault t)
abbrev X_latestFault' (t : XS) (v : Int32) : XS := (X_sheets t, X_now t, X_then t, X_said t, X_daysGone t, X_traced t, v)
abbrev MS : Type := Int32 × Int32 × (Nat → Int32) × (Nat → Int32) × (Nat → Int32) × Int32 × Int32 × Int32 × Int32 × (Nat → Int32) × (Nat → Int32) × (Nat → Int32) × Int32 × Int32 × Int32 × (Nat → Int32) × (Nat → Int32) × (Nat → Int32) × Int32 × Int32 × Int32 × (Nat → Int32) × (Nat → Int32) × (Nat → Int32)
abbrev M_fault (t : MS) : Int32 := t.1
abbrev M_trace (t : MS) : Int32 := t.2.1
abbrev M_sorts (t : MS) : (Nat → Int32) := t.2.2.1
abbrev M_sheetLong (t : MS) : (Nat → Int32) := t.2.2.2.1
abbrev M_cells (t : MS) : (Nat → Int32) := t.2.2.2.2.1
abbrev M_people (t : MS) : Int32 := t.2.2.2.2.2.1
abbrev M_tin (t : MS) : Int32 := t.2.2.2.2.2.2.1
abbrev M_isIn (t : MS) : Int32 := t.2.2.2.2.2.2.2.1
abbrev M_days (t : MS) : Int32 := t.2.2.2.2.2.2.2.2.1
abbrev M_kind (t : MS) : (Nat → Int32) := t.2.2.2.2.2.2.2.2.2.1
abbrev M_parts (t : MS) : (Nat → Int32) := t.2.2.2.2.2.2.2.2.2.2.1
abbrev M_thick (t : MS) : (Nat → Int32) := t.2.2.2.2.2.2.2.2.2.2.2.1
abbrev M_at (t : MS) : Int32 := t.2.2.2.2.2.2.2.2.2.2.2.2.1
abbrev M_readTin (t : MS) : Int32 := t.2.2.2.2.2.2.2.2.2.2.2.2.2.1
abbrev M_readPeople (t : MS) : Int32 := t.2.2.2.2.2.2.2.2.2.2.2.2.2.2.1
abbrev M_read (t : MS) : (Nat → Int32) := t.2.2.2.2.2.2.2.2.2.2.2.2.2.2.2.1
abbrev M_shared (t : MS) : (Nat → Int32) := t.2.2.2.2.2.2.2.2.2.2.2.2.2.2.2.2.1
abbrev M_keptParts (t : MS) : (Nat → Int32) := t.2.2.2.2.2.2.2.2.2.2.2.2.2.2.2.2.2.1
abbrev M_keptTin (t : MS) : Int32 := t.2.2.2.2.2.2.2.2.2.2.2.2.2.2.2.2.2.2.1
abbrev M_keptIn (t : MS) : Int32 := t.2.2.2.2.2.2.2.2.2.2.2.2.2.2.2.2.2.2.2.1
abbrev M_readings (t : MS) : Int32 := t.2.2.2.2.2.2.2.2.2.2.2.2.2.2.2.2.2.2.2.2.1
abbrev M_readWho (t : MS) : (Nat → Int32) := t.2.2.2.2.2.2.2.2.2.2.2.2.2.2.2.2.2.2.2.2.2.1
abbrev M_readParts (t : MS) : (Nat → Int32) := t.2.2.2.2.2.2.2.2.2.2.2.2.2.2.2.2.2.2.2.2.2.2.1
abbrev M_readSaid (t : MS) : (Nat → Int32) := t.2.2.2.2.2.2.2.2.2.2.2.2.2.2.2.2.2.2.2.2.2.2.2
abbrev M_fault' (t : MS) (v : Int32) : MS := (v, M_trace t, M_sorts t, M_sheetLong t, M_cells t, M_people t, M_tin t, M_isIn t, M_days t, M_kind t, M_parts t, M_thick t, M_at t, M_readTin t, M_readPeople t, M_read t, M_shared t, M_keptParts t, M_keptTin t, M_keptIn t, M_readings t, M_readWho t, M_readParts t, M_readSaid t)
abbrev M_trace' (t : MS) (v : Int32) : MS := (M_fault t, v, M_sorts t, M_sheetLong t, M_cells t, M_people t, M_tin t, M_isIn t, M_days t, M_kind t, M_parts t, M_thick t, M_at t, M_readTin t, M_readPeople t, M_read t, M_shared t, M_keptParts t, M_keptTin t, M_keptIn t, M_readings t, M_readWho t, M_readParts t, M_readSaid t)
abbrev M_sorts' (t : MS) (v : (Nat → Int32)) : MS := (M_fault t, M_trace t, v, M_sheetLong t, M_cells t, M_people t, M_tin t, M_isIn t, M_days t, M_kind t, M_parts t, M_thick t, M_at t, M_readTin t, M_readPeople t, M_read t, M_shared t, M_keptParts t, M_keptTin t, M_keptIn t, M_readings t, M_readWho t, M_readParts t, M_readSaid t)
abbrev M_sheetLong' (t : MS) (v : (Nat → Int32)) : MS := (M_fault t, M_trace t, M_sorts t, v, M_cells t, M_people t, M_tin t, M_isIn t, M_days t, M_kind t, M_parts t, M_thick t, M_at t, M_readTin t, M_readPeople t, M_read t, M_shared t, M_keptParts t, M_keptTin t, M_keptIn t, M_readings t, M_readWho t, M_readParts t, M_readSaid t)
abbrev M_cells' (t : MS) (v : (Nat → Int32)) : MS := (M_fault t, M_trace t, M_sorts t, M_sheetLong t, v, M_people t, M_tin t, M_isIn t, M_days t, M_kind t, M_parts t, M_thick t, M_at t, M_readTin t, M_readPeople t, M_read t, M_shared t, M_keptParts t, M_keptTin t, M_keptIn t, M_readings t, M_readWho t, M_readParts t, M_readSaid t)
abbrev M_people' (t : MS) (v : Int32) : MS := (M_fault t, M_trace t, M_sorts t, M_sheetLong t, M_cells t, v, M_tin t, M_isIn t, M_days t, M_kind t, M_parts t, M_thick t, M_at t, M_readTin t, M_readPeople t, M_read t, M_shared t, M_keptParts t, M_keptTin t, M_keptIn t, M_readings t, M_readWho t, M_readParts t, M_readSaid t)
abbrev M_tin' (t : MS) (v : Int32) : MS := (M_fault t, M_trace t, M_sorts t, M_sheetLong t, M_cells t, M_people t, v, M_isIn t, M_days t, M_kind t, M_parts t, M_thick t, M_at t, M_readTin t, M_readPeople t, M_read t, M_shared t, M_keptParts t, M_keptTin t, M_keptIn t, M_readings t, M_readWho t, M_readParts t, M_readSaid t)
abbrev M_isIn' (t : MS) (v : Int32) : MS := (M_fault t, M_trace t, M_sorts t, M_sheetLong t, M_cells t, M_people t, M_tin t, v, M_days t, M_kind t, M_parts t, M_thick t, M_at t, M_readTin t, M_readPeople t, M_read t, M_shared t, M_keptParts t, M_keptTin t, M_keptIn t, M_readings t, M_readWho t, M_readParts t, M_readSaid t)
abbrev M_days' (t : MS) (v : Int32) : MS := (M_fault t, M_trace t, M_sorts t, M_sheetLong t, M_cells t, M_people t, M_tin t, M_isIn t, v, M_kind t, M_parts t, M_thick t, M_at t, M_readTin t, M_readPeople t, M_read t, M_shared t, M_keptParts t, M_keptTin t, M_keptIn t, M_readings t, M_readWho t, M_readParts t, M_readSaid t)
abbrev M_kind' (t : MS) (v : (Nat → Int32)) : MS := (M_fault t, M_trace t, M_sorts t, M_sheetLong t, M_cells t, M_people t, M_tin t, M_isIn t, M_days t, v, M_parts t, M_thick t, M_at t, M_readTin t, M_readPeople t, M_read t, M_shared t, M_keptParts t, M_keptTin t, M_keptIn t, M_readings t, M_readWho t, M_readParts t, M_readSaid t)
abbrev M_parts' (t : MS) (v : (Nat → Int32)) : MS := (M_fault t, M_trace t, M_sorts t, M_sheetLong t, M_cells t, M_people t, M_tin t, M_isIn t, M_days t, M_kind t, v, M_thick t, M_at t, M_readTin t, M_readPeople t, M_read t, M_shared t, M_keptParts t, M_keptTin t, M_keptIn t, M_readings t, M_readWho t, M_readParts t, M_readSaid t)
abbrev M_thick' (t : MS) (v : (Nat → Int32)) : MS := (M_fault t, M_trace t, M_sorts t, M_sheetLong t, M_cells t, M_people t, M_tin t, M_isIn t, M_days t, M_kind t, M_parts t, v, M_at t, M_readTin t, M_readPeople t, M_read t, M_shared t, M_keptParts t, M_keptTin t, M_keptIn t, M_readings t, M_readWho t, M_readParts t, M_readSaid t)
abbrev M_at' (t : MS) (v : Int32) : MS := (M_fault t, M_trace t, M_sorts t, M_sheetLong t, M_cells t, M_people t, M_tin t, M_isIn t, M_days t, M_kind t, M_parts t, M_thick t, v, M_readTin t, M_readPeople t, M_read t, M_shared t, M_keptParts t, M_keptTin t, M_keptIn t, M_readings t, M_readWho t, M_readParts t, M_readSaid t)
abbrev M_readTin' (t : MS) (v : Int32) : MS := (M_fault t, M_trace t, M_sorts t, M_sheetLong t, M_cells t, M_people t, M_tin t, M_isIn t, M_days t, M_kind t, M_parts t, M_thick t, M_at t, v, M_readPeople t, M_read t, M_shared t, M_keptParts t, M_keptTin t, M_keptIn t, M_readings t, M_readWho t, M_readParts t, M_readSaid t)
abbrev M_readPeople' (t : MS) (v : Int32) : MS := (M_fault t, M_trace t, M_sorts t, M_sheetLong t, M_cells t, M_people t, M_tin t, M_isIn t, M_days t, M_kind t, M_parts t, M_thick t, M_at t, M_readTin t, v, M_read t, M_shared t, M_keptParts t, M_keptTin t, M_keptIn t, M_readings t, M_readWho t, M_readParts t, M_readSaid t)
abbrev M_read' (t : MS) (v : (Nat → Int32)) : MS := (M_fault t, M_trace t, M_sorts t, M_sheetLong t, M_cells t, M_people t, M_tin t, M_isIn t, M_days t, M_kind t, M_parts t, M_thick t, M_at t, M_readTin t, M_readPeople t, v, M_shared t, M_keptParts t, M_keptTin t, M_keptIn t, M_readings t, M_readWho t, M_readParts t, M_readSaid t)
abbrev M_shared' (t : MS) (v : (Nat → Int32)) : MS := (M_fault t, M_trace t, M_sorts t, M_sheetLong t, M_cells t, M_people t, M_tin t, M_isIn t, M_days t, M_kind t, M_parts t, M_thick t, M_at t, M_readTin t, M_readPeople t, M_read t, v, M_keptParts t, M_keptTin t, M_keptIn t, M_readings t, M_readWho t, M_readParts t, M_readSaid t)
abbrev M_keptParts' (t : MS) (v : (Nat → Int32)) : MS := (M_fault t, M_trace t, M_sorts t, M_sheetLong t, M_cells t, M_people t, M_tin t, M_isIn t, M_days t, M_kind t, M_parts t, M_thick t, M_at t, M_readTin t, M_readPeople t, M_read t, M_shared t, v, M_keptTin t, M_keptIn t, M_readings t, M_readWho t, M_readParts t, M_readSaid t)
abbrev M_keptTin' (t : MS) (v : Int32) : MS := (M_fault t, M_trace t, M_sorts t, M_sheetLong t, M_cells t, M_people t, M_tin t, M_isIn t, M_days t, M_kind t, M_parts t, M_thick t, M_at t, M_readTin t, M_readPeople t, M_read t, M_shared t, M_keptParts t, v, M_keptIn t, M_readings t, M_readWho t, M_readParts t, M_readSaid t)
abbrev M_keptIn' (t : MS) (v : Int32) : MS := (M_fault t, M_trace t, M_sorts t, M_sheetLong t, M_cells t, M_people t, M_tin t, M_isIn t, M_days t, M_kind t, M_parts t, M_thick t, M_at t, M_readTin t, M_readPeople t, M_read t, M_shared t, M_keptParts t, M_keptTin t, v, M_readings t, M_readWho t, M_readParts t, M_readSaid t)
abbrev M_readings' (t : MS) (v : Int32) : MS := (M_fault t, M_trace t, M_sorts t, M_sheetLong t, M_cells t, M_people t, M_tin t, M_isIn t, M_days t, M_kind t, M_parts t, M_thick t, M_at t, M_readTin t, M_readPeople t, M_read t, M_shared t, M_keptParts t, M_keptTin t, M_keptIn t, v, M_readWho t, M_readParts t, M_readSaid t)
abbrev M_readWho' (t : MS) (v : (Nat → Int32)) : MS := (M_fault t, M_trace t, M_sorts t, M_sheetLong t, M_cells t, M_people t, M_tin t, M_isIn t, M_days t, M_kind t, M_parts t, M_thick t, M_at t, M_readTin t, M_readPeople t, M_read t, M_shared t, M_keptParts t, M_keptTin t, M_keptIn t, M_readings t, v, M_readParts t, M_readSaid t)
abbrev M_readParts' (t : MS) (v : (Nat → Int32)) : MS := (M_fault t, M_trace t, M_sorts t, M_sheetLong t, M_cells t, M_people t, M_tin t, M_isIn t, M_days t, M_kind t, M_parts t, M_thick t, M_at t, M_readTin t, M_readPeople t, M_read t, M_shared t, M_keptParts t, M_keptTin t, M_keptIn t, M_readings t, M_readWho t, v, M_readSaid t)
abbrev M_readSaid' (t : MS) (v : (Nat → Int32)) : MS := (M_fault t, M_trace t, M_sorts t, M_sheetLong t, M_cells t, M_people t, M_tin t, M_isIn t, M_days t, M_kind t, M_parts t, M_thick t, M_at t, M_readTin t, M_readPeople t, M_read t, M_shared t, M_keptParts t, M_keptTin t, M_keptIn t, M_readings t, M_readWho t, M_readParts t, v)
abbrev wR (a0 a1 a2 a3 : Nat) (cI : ClassId) (t : RD) : va_W := [(a0, .inr (0, [.ref a1, .ref a2, .ref a3, .int (R_count t)])), (a1, .inl (cI, 8, .inl (R_person t))), (a2, .inl (cI, 8, .inl (R_parts t))), (a3, .inl (cI, 8, .inl (R_amount t)))]
abbrev wS (a0 a1 : Nat) (cI : ClassId) (t : SH) : va_W := [(a0, .inr (1, [.ref a1, .int (S_lane t), .int (S_length t), .int (S_held t)])), (a1, .inl (cI, 60, .inl (S_cells t)))]
abbrev wT (a0 a1 a2 a3 : Nat) (cI : ClassId) (t : TN) : va_W := [(a0, .inr (2, [.ref a1, .ref a2, .ref a3, .int (T_count t), .int (T_inside t), .int (T_tin t)])), (a1, .inl (cI, 6, .inl (T_kind t))), (a2, .inl (cI, 6, .inl (T_parts t))), (a3, .inl (cI, 6, .inl (T_thick t)))]
abbrev wM (ad : Nat → Nat) (cI : ClassId) (t : MS) : va_W := [((ad 0), .inr (4, [.int (M_fault t), .int (M_trace t), .ref (ad 1), .ref (ad 2), .ref (ad 3), .int (M_people t), .int (M_tin t), .int (M_isIn t), .int (M_days t), .ref (ad 4), .ref (ad 5), .ref (ad 6), .int (M_at t), .int (M_readTin t), .int (M_readPeople t), .ref (ad 7), .ref (ad 8), .ref (ad 9), .int (M_keptTin t), .int (M_keptIn t), .int (M_readings t), .ref (ad 10), .ref (ad 11), .ref (ad 12)])), ((ad 1), .inl (cI, 4, .inl (M_sorts t))), ((ad 2), .inl (cI, 4, .inl (M_sheetLong t))), ((ad 3), .inl (cI, 240, .inl (M_cells t))), ((ad 4), .inl (cI, 6, .inl (M_kind t))), ((ad 5), .inl (cI, 6, .inl (M_parts t))), ((ad 6), .inl (cI, 6, .inl (M_thick t))), ((ad 7), .inl (cI, 24, .inl (M_read t))), ((ad 8), .inl (cI, 6, .inl (M_shared t))), ((ad 9), .inl (cI, 6, .inl (M_keptParts t))), ((ad 10), .inl (cI, 8, .inl (M_readWho t))), ((ad 11), .inl (cI, 8, .inl (M_readParts t))), ((ad 12), .inl (cI, 8, .inl (M_readSaid t)))]
abbrev wX (ad : Nat → Nat) (cI cO : ClassId) (t : XS) : va_W := [(ad 0, .inr (3, [.ref (ad 1), .ref (ad 2), .ref (ad 6), .ref (ad 10), .int (X_daysGone t), .int (X_traced t), .int (X_latestFault t)])), (ad 1, .inl (cO, 4, .inr (.inr (.inr (.inr (fun j => some (ad (14 + 2 * j)))))))), ((ad 2), .inr (2, [.ref (ad 3), .ref (ad 4), .ref (ad 5), .int (T_count (X_now t)), .int (T_inside (X_now t)), .int (T_tin (X_now t))])), ((ad 3), .inl (cI, 6, .inl (T_kind (X_now t)))), ((ad 4), .inl (cI, 6, .inl (T_parts (X_now t)))), ((ad 5), .inl (cI, 6, .inl (T_thick (X_now t)))), ((ad 6), .inr (2, [.ref (ad 7), .ref (ad 8), .ref (ad 9), .int (T_count (X_then t)), .int (T_inside (X_then t)), .int (T_tin (X_then t))])), ((ad 7), .inl (cI, 6, .inl (T_kind (X_then t)))), ((ad 8), .inl (cI, 6, .inl (T_parts (X_then t)))), ((ad 9), .inl (cI, 6, .inl (T_thick (X_then t)))), ((ad 10), .inr (0, [.ref (ad 11), .ref (ad 12), .ref (ad 13), .int (R_count (X_said t))])), ((ad 11), .inl (cI, 8, .inl (R_person (X_said t)))), ((ad 12), .inl (cI, 8, .inl (R_parts (X_said t)))), ((ad 13), .inl (cI, 8, .inl (R_amount (X_said t)))), ((ad 14), .inr (1, [.ref (ad 15), .int (S_lane (X_sheets t 0)), .int (S_length (X_sheets t 0)), .int (S_held (X_sheets t 0))])), ((ad 15), .inl (cI, 60, .inl (S_cells (X_sheets t 0)))), ((ad 16), .inr (1, [.ref (ad 17), .int (S_lane (X_sheets t 1)), .int (S_length (X_sheets t 1)), .int (S_held (X_sheets t 1))])), ((ad 17), .inl (cI, 60, .inl (S_cells (X_sheets t 1)))), ((ad 18), .inr (1, [.ref (ad 19), .int (S_lane (X_sheets t 2)), .int (S_length (X_sheets t 2)), .int (S_held (X_sheets t 2))])), ((ad 19), .inl (cI, 60, .inl (S_cells (X_sheets t 2)))), ((ad 20), .inr (1, [.ref (ad 21), .int (S_lane (X_sheets t 3)), .int (S_length (X_sheets t 3)), .int (S_held (X_sheets t 3))])), ((ad 21), .inl (cI, 60, .inl (S_cells (X_sheets t 3))))]
