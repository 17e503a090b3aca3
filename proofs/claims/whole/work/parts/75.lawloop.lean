theorem sw_out34 {x : Int32} (h0 : ¬ x = 0) (h1 : ¬ x = 1) (h2 : ¬ x = 2) (h3 : ¬ x = 3) (h4 : ¬ x = 4) (h5 : ¬ x = 5) (h6 : ¬ x = 6) (h7 : ¬ x = 7) (h8 : ¬ x = 8) (h9 : ¬ x = 9) (h10 : ¬ x = 10) (h11 : ¬ x = 11) (h12 : ¬ x = 12) (h13 : ¬ x = 13) (h14 : ¬ x = 14) (h15 : ¬ x = 15) (h16 : ¬ x = 16) (h17 : ¬ x = 17) (h18 : ¬ x = 18) (h19 : ¬ x = 19) (h20 : ¬ x = 20) (h21 : ¬ x = 21) (h22 : ¬ x = 22) (h23 : ¬ x = 23) (h24 : ¬ x = 24) (h25 : ¬ x = 25) (h26 : ¬ x = 26) (h27 : ¬ x = 27) (h28 : ¬ x = 28) (h29 : ¬ x = 29) (h30 : ¬ x = 30) (h31 : ¬ x = 31) (h32 : ¬ x = 32) (h33 : ¬ x = 33) : x.toInt < 0 ∨ 33 < x.toInt := by
  rw [fa_eq, show (0 : Int32).toInt = 0 from rfl] at h0
  rw [fa_eq, show (1 : Int32).toInt = 1 from rfl] at h1
  rw [fa_eq, show (2 : Int32).toInt = 2 from rfl] at h2
  rw [fa_eq, show (3 : Int32).toInt = 3 from rfl] at h3
  rw [fa_eq, show (4 : Int32).toInt = 4 from rfl] at h4
  rw [fa_eq, show (5 : Int32).toInt = 5 from rfl] at h5
  rw [fa_eq, show (6 : Int32).toInt = 6 from rfl] at h6
  rw [fa_eq, show (7 : Int32).toInt = 7 from rfl] at h7
  rw [fa_eq, show (8 : Int32).toInt = 8 from rfl] at h8
  rw [fa_eq, show (9 : Int32).toInt = 9 from rfl] at h9
  rw [fa_eq, show (10 : Int32).toInt = 10 from rfl] at h10
  rw [fa_eq, show (11 : Int32).toInt = 11 from rfl] at h11
  rw [fa_eq, show (12 : Int32).toInt = 12 from rfl] at h12
  rw [fa_eq, show (13 : Int32).toInt = 13 from rfl] at h13
  rw [fa_eq, show (14 : Int32).toInt = 14 from rfl] at h14
  rw [fa_eq, show (15 : Int32).toInt = 15 from rfl] at h15
  rw [fa_eq, show (16 : Int32).toInt = 16 from rfl] at h16
  rw [fa_eq, show (17 : Int32).toInt = 17 from rfl] at h17
  rw [fa_eq, show (18 : Int32).toInt = 18 from rfl] at h18
  rw [fa_eq, show (19 : Int32).toInt = 19 from rfl] at h19
  rw [fa_eq, show (20 : Int32).toInt = 20 from rfl] at h20
  rw [fa_eq, show (21 : Int32).toInt = 21 from rfl] at h21
  rw [fa_eq, show (22 : Int32).toInt = 22 from rfl] at h22
  rw [fa_eq, show (23 : Int32).toInt = 23 from rfl] at h23
  rw [fa_eq, show (24 : Int32).toInt = 24 from rfl] at h24
  rw [fa_eq, show (25 : Int32).toInt = 25 from rfl] at h25
  rw [fa_eq, show (26 : Int32).toInt = 26 from rfl] at h26
  rw [fa_eq, show (27 : Int32).toInt = 27 from rfl] at h27
  rw [fa_eq, show (28 : Int32).toInt = 28 from rfl] at h28
  rw [fa_eq, show (29 : Int32).toInt = 29 from rfl] at h29
  rw [fa_eq, show (30 : Int32).toInt = 30 from rfl] at h30
  rw [fa_eq, show (31 : Int32).toInt = 31 from rfl] at h31
  rw [fa_eq, show (32 : Int32).toInt = 32 from rfl] at h32
  rw [fa_eq, show (33 : Int32).toInt = 33 from rfl] at h33
  omega
theorem ll_sub {L : Nat} (hL : L ≤ 3072) : (Int32.ofNat L - (6 : Int32)).toInt = (L : Int) - 6 := by
  have h : (Int32.ofNat L).toInt = (L : Int) := nI_toInt (by omega)
  rw [fb_subI (by rw [h, show (6 : Int32).toInt = 6 from rfl]; omega) (by rw [h, show (6 : Int32).toInt = 6 from rfl]; omega), h, show (6 : Int32).toInt = 6 from rfl]
theorem ll_le {L : Nat} {x : Int32} (hL : L ≤ 3072) (c : ¬ Int32.ofNat L - (6 : Int32) < x) : x.toInt + 6 ≤ L := by
  rw [fa_lt, ll_sub hL] at c
  omega
theorem ll_6 {x : Int32} (h : x.toInt ≤ 3072) (h0 : 0 ≤ x.toInt) : (x + (6 : Int32)).toInt = x.toInt + 6 := by
  rw [fb_addI] <;> rw [show (6 : Int32).toInt = 6 from rfl] <;> omega
theorem ll_in {x : Int32} {L : Nat} (h0 : 0 ≤ x.toInt) (h1 : x.toInt + 6 ≤ L) : vp_in x L := vp_in_iff.mpr ⟨h0, by omega⟩
set_option maxHeartbeats 8000000 in
set_option maxRecDepth 100000 in
theorem law_loop {p : Program} (l : Launch) {e : Env} {s : State} {m : MethodId} {below : List Frame} {meth : Method} {c : Code} (D : va_G) (cI cO : ClassId) (tF : Nat) (ad bd : Nat → Nat) {b L : Nat} {xs : Nat → Int32} (hL : L ≤ 3072) (hX : va_X b L xs s s.heap) (hbl : b < s.heap.size) (B : Bx p s m #[Value.ref b] meth c cL_law 4 ret wsL_law RL D cI cO tF (fun q : Nat => s.heap.size ≤ q)) : ∀ (n : Nat) (X : XS) (M : MS) (x3 : Int32), Rel X M → 0 ≤ x3.toInt → x3.toInt ≤ 3072 → (3078 - x3.toInt).toNat < n → ∀ (H : Heap) (locs : List Loc), va_P D vwCl (wX ad cI cO X ++ wM bd cI M) H → va_D (fun q : Nat => s.heap.size ≤ q) (wX ad cI cO X ++ wM bd cI M) → va_S (fun q : Nat => s.heap.size ≤ q) s.heap H locs → ∀ ls : Array Slot, lv_has ls 4 [(0, .ref b), (1, .ref (ad 0)), (2, .ref (bd 0)), (3, .int x3)] → W p l e room_1 s m #[Value.ref b] below meth c H locs 600000 7302250 (lw_Z below #[Value.ref b] s) (F0 m 18 ls []) := by
  obtain ⟨hx, hb, hret, hml, hts, hown, hlocks, hE, hA⟩ := id B
  have hbA : ¬ (fun q : Nat => s.heap.size ≤ q) b := Nat.not_le.mpr hbl
  intro n
  induction n with
  | zero => intro X M x3 _ _ _ hk; exact absurd hk (Nat.not_lt_zero _)
  | succ n ih =>
    intro X M x3 hR h0 hle hk H locs hP hD hS ls hl
    refine lv_iload_n hx hb dL_law_18 rfl (lv_at hl 3 rfl) ?_
    refine lv_aload_n hx hb dL_law_19 rfl (lv_at hl 0 rfl) ?_
    refine va_slen hx hb hX hbl hbA hS dL_law_20 ?_
    refine lv_bipush (v := (6 : Int32)) hx hb dL_law_21 (by decide) ?_
    refine lv_isub hx hb dL_law_23 ?_
    refine lv_icmp_gt (tgt := 1276) hx hb dL_law_24 (by decide) (fun _ => ?_) (fun c_24 => ?_)
    · refine lv_iconst (v := 1) hx hb dL_law_1276 (by decide) ?_
      refine va_forget hS.2.2 ?_
      exact lw_ret hx hb hret hlocks dL_law_1277
    · have h1 := ll_le hL c_24
      have kk : ∀ (X' : XS) (M' : MS), Rel X' M' → ∀ (H : Heap) (locs : List Loc), va_P D vwCl (wX ad cI cO X' ++ wM bd cI M') H → va_D (fun q : Nat => s.heap.size ≤ q) (wX ad cI cO X' ++ wM bd cI M') → va_S (fun q : Nat => s.heap.size ≤ q) s.heap H locs → ∀ ls : Array Slot, lv_has ls 4 [(0, .ref b), (1, .ref (ad 0)), (2, .ref (bd 0)), (3, .int x3)] → W p l e room_1 s m #[Value.ref b] below meth c H locs 600000 7302250 (lw_Z below #[Value.ref b] s) (F0 m 1270 ls []) := by
        intro X' M' hR' H locs hP hD hS ls hl
        refine lv_iinc (v := x3 + (6 : Int32)) (lv' := [(3, .int (x3 + (6 : Int32))), (0, .ref b), (1, .ref (ad 0)), (2, .ref (bd 0))]) hx hb dL_law_1270 hl (k := 3) rfl rfl (by decide) rfl (fun ls hl => ?_)
        refine lv_goto (tgt := 18) hx hb dL_law_1273 (by decide) ?_
        exact ih X' M' (x3 + (6 : Int32)) hR' (by rw [ll_6 hle h0]; omega) (by rw [ll_6 hle h0]; omega) (by rw [ll_6 hle h0]; omega) H locs hP hD hS ls (lv_sub hl [1, 2, 3, 0] rfl)
      refine lv_aload_n hx hb dL_law_27 rfl (lv_at hl 0 rfl) ?_
      refine lv_iload_n hx hb dL_law_28 rfl (lv_at hl 3 rfl) ?_
      refine va_sld hx hb hX hbl hbA hS (ll_in h0 h1) dL_law_29 ?_
      refine lv_bipush (v := (63 : Int32)) hx hb dL_law_30 (by decide) ?_
      refine lv_iand hx hb dL_law_32 ?_
      generalize xs x3.toNatClampNeg &&& (63 : Int32) = z
      by_cases e0 : z = 0
      · refine lv_tableIn (off := 151) (tgt := 184) hx hb dL_law_33 (by rw [e0]; decide) (by rw [e0]; decide) (by rw [e0]; rfl) (by decide) ?_
        exact law_c0 l D cI cO tF ad bd B hX hbl hbA X M hR x3 h0 h1 hL kk H locs hP hD hS ls hl
      by_cases e1 : z = 1
      · refine lv_tableIn (off := 204) (tgt := 237) hx hb dL_law_33 (by rw [e1]; decide) (by rw [e1]; decide) (by rw [e1]; rfl) (by decide) ?_
        exact law_c1 l D cI cO tF ad bd B hX hbl hbA X M hR x3 h0 h1 hL kk H locs hP hD hS ls hl
      by_cases e2 : z = 2
      · refine lv_tableIn (off := 237) (tgt := 270) hx hb dL_law_33 (by rw [e2]; decide) (by rw [e2]; decide) (by rw [e2]; rfl) (by decide) ?_
        exact law_c2 l D cI cO tF ad bd B hX hbl hbA X M hR x3 h0 h1 hL kk H locs hP hD hS ls hl
      by_cases e3 : z = 3
      · refine lv_tableIn (off := 270) (tgt := 303) hx hb dL_law_33 (by rw [e3]; decide) (by rw [e3]; decide) (by rw [e3]; rfl) (by decide) ?_
        exact law_c3 l D cI cO tF ad bd B hX hbl hbA X M hR x3 h0 h1 hL kk H locs hP hD hS ls hl
      by_cases e4 : z = 4
      · refine lv_tableIn (off := 293) (tgt := 326) hx hb dL_law_33 (by rw [e4]; decide) (by rw [e4]; decide) (by rw [e4]; rfl) (by decide) ?_
        exact law_c4 l D cI cO tF ad bd B hX hbl hbA X M hR x3 h0 h1 hL kk H locs hP hD hS ls hl
      by_cases e5 : z = 5
      · refine lv_tableIn (off := 316) (tgt := 349) hx hb dL_law_33 (by rw [e5]; decide) (by rw [e5]; decide) (by rw [e5]; rfl) (by decide) ?_
        exact law_c5 l D cI cO tF ad bd B hX hbl hbA X M hR x3 h0 h1 hL kk H locs hP hD hS ls hl
      by_cases e6 : z = 6
      · refine lv_tableIn (off := 339) (tgt := 372) hx hb dL_law_33 (by rw [e6]; decide) (by rw [e6]; decide) (by rw [e6]; rfl) (by decide) ?_
        exact law_c6 l D cI cO tF ad bd B hX hbl hbA X M hR x3 h0 h1 hL kk H locs hP hD hS ls hl
      by_cases e7 : z = 7
      · refine lv_tableIn (off := 362) (tgt := 395) hx hb dL_law_33 (by rw [e7]; decide) (by rw [e7]; decide) (by rw [e7]; rfl) (by decide) ?_
        exact law_c7 l D cI cO tF ad bd B hX hbl hbA X M hR x3 h0 h1 hL kk H locs hP hD hS ls hl
      by_cases e8 : z = 8
      · refine lv_tableIn (off := 385) (tgt := 418) hx hb dL_law_33 (by rw [e8]; decide) (by rw [e8]; decide) (by rw [e8]; rfl) (by decide) ?_
        exact law_c8 l D cI cO tF ad bd B hX hbl hbA X M hR x3 h0 h1 hL kk H locs hP hD hS ls hl
      by_cases e9 : z = 9
      · refine lv_tableIn (off := 418) (tgt := 451) hx hb dL_law_33 (by rw [e9]; decide) (by rw [e9]; decide) (by rw [e9]; rfl) (by decide) ?_
        exact law_c9 l D cI cO tF ad bd B hX hbl hbA X M hR x3 h0 h1 hL kk H locs hP hD hS ls hl
      by_cases e10 : z = 10
      · refine lv_tableIn (off := 441) (tgt := 474) hx hb dL_law_33 (by rw [e10]; decide) (by rw [e10]; decide) (by rw [e10]; rfl) (by decide) ?_
        exact law_c10 l D cI cO tF ad bd B hX hbl hbA X M hR x3 h0 h1 hL kk H locs hP hD hS ls hl
      by_cases e11 : z = 11
      · refine lv_tableIn (off := 504) (tgt := 537) hx hb dL_law_33 (by rw [e11]; decide) (by rw [e11]; decide) (by rw [e11]; rfl) (by decide) ?_
        exact law_c11 l D cI cO tF ad bd B hX hbl hbA X M hR x3 h0 h1 hL kk H locs hP hD hS ls hl
      by_cases e12 : z = 12
      · refine lv_tableIn (off := 547) (tgt := 580) hx hb dL_law_33 (by rw [e12]; decide) (by rw [e12]; decide) (by rw [e12]; rfl) (by decide) ?_
        exact law_c12 l D cI cO tF ad bd B hX hbl hbA X M hR x3 h0 h1 hL kk H locs hP hD hS ls hl
      by_cases e13 : z = 13
      · refine lv_tableIn (off := 580) (tgt := 613) hx hb dL_law_33 (by rw [e13]; decide) (by rw [e13]; decide) (by rw [e13]; rfl) (by decide) ?_
        exact law_c13 l D cI cO tF ad bd B hX hbl hbA X M hR x3 h0 h1 hL kk H locs hP hD hS ls hl
      by_cases e14 : z = 14
      · refine lv_tableIn (off := 603) (tgt := 636) hx hb dL_law_33 (by rw [e14]; decide) (by rw [e14]; decide) (by rw [e14]; rfl) (by decide) ?_
        exact law_c14 l D cI cO tF ad bd B hX hbl hbA X M hR x3 h0 h1 hL kk H locs hP hD hS ls hl
      by_cases e15 : z = 15
      · refine lv_tableIn (off := 646) (tgt := 679) hx hb dL_law_33 (by rw [e15]; decide) (by rw [e15]; decide) (by rw [e15]; rfl) (by decide) ?_
        exact law_c15 l D cI cO tF ad bd B hX hbl hbA X M hR x3 h0 h1 hL kk H locs hP hD hS ls hl
      by_cases e16 : z = 16
      · refine lv_tableIn (off := 679) (tgt := 712) hx hb dL_law_33 (by rw [e16]; decide) (by rw [e16]; decide) (by rw [e16]; rfl) (by decide) ?_
        exact law_c16 l D cI cO tF ad bd B hX hbl hbA X M hR x3 h0 h1 hL kk H locs hP hD hS ls hl
      by_cases e17 : z = 17
      · refine lv_tableIn (off := 713) (tgt := 746) hx hb dL_law_33 (by rw [e17]; decide) (by rw [e17]; decide) (by rw [e17]; rfl) (by decide) ?_
        exact law_c17 l D cI cO tF ad bd B hX hbl hbA X M hR x3 h0 h1 hL kk H locs hP hD hS ls hl
      by_cases e18 : z = 18
      · refine lv_tableIn (off := 737) (tgt := 770) hx hb dL_law_33 (by rw [e18]; decide) (by rw [e18]; decide) (by rw [e18]; rfl) (by decide) ?_
        exact law_c18 l D cI cO tF ad bd B hX hbl hbA X M hR x3 h0 h1 hL kk H locs hP hD hS ls hl
      by_cases e19 : z = 19
      · refine lv_tableIn (off := 780) (tgt := 813) hx hb dL_law_33 (by rw [e19]; decide) (by rw [e19]; decide) (by rw [e19]; rfl) (by decide) ?_
        exact law_c19 l D cI cO tF ad bd B hX hbl hbA X M hR x3 h0 h1 hL kk H locs hP hD hS ls hl
      by_cases e20 : z = 20
      · refine lv_tableIn (off := 803) (tgt := 836) hx hb dL_law_33 (by rw [e20]; decide) (by rw [e20]; decide) (by rw [e20]; rfl) (by decide) ?_
        exact law_c20 l D cI cO tF ad bd B hX hbl hbA X M hR x3 h0 h1 hL kk H locs hP hD hS ls hl
      by_cases e21 : z = 21
      · refine lv_tableIn (off := 826) (tgt := 859) hx hb dL_law_33 (by rw [e21]; decide) (by rw [e21]; decide) (by rw [e21]; rfl) (by decide) ?_
        exact law_c21 l D cI cO tF ad bd B hX hbl hbA X M hR x3 h0 h1 hL kk H locs hP hD hS ls hl
      by_cases e22 : z = 22
      · refine lv_tableIn (off := 849) (tgt := 882) hx hb dL_law_33 (by rw [e22]; decide) (by rw [e22]; decide) (by rw [e22]; rfl) (by decide) ?_
        exact law_c22 l D cI cO tF ad bd B hX hbl hbA X M hR x3 h0 h1 hL kk H locs hP hD hS ls hl
      by_cases e23 : z = 23
      · refine lv_tableIn (off := 893) (tgt := 926) hx hb dL_law_33 (by rw [e23]; decide) (by rw [e23]; decide) (by rw [e23]; rfl) (by decide) ?_
        exact law_c23 l D cI cO tF ad bd B hX hbl hbA X M hR x3 h0 h1 hL kk H locs hP hD hS ls hl
      by_cases e24 : z = 24
      · refine lv_tableIn (off := 936) (tgt := 969) hx hb dL_law_33 (by rw [e24]; decide) (by rw [e24]; decide) (by rw [e24]; rfl) (by decide) ?_
        exact law_c24 l D cI cO tF ad bd B hX hbl hbA X M hR x3 h0 h1 hL kk H locs hP hD hS ls hl
      by_cases e25 : z = 25
      · refine lv_tableIn (off := 959) (tgt := 992) hx hb dL_law_33 (by rw [e25]; decide) (by rw [e25]; decide) (by rw [e25]; rfl) (by decide) ?_
        exact law_c25 l D cI cO tF ad bd B hX hbl hbA X M hR x3 h0 h1 hL kk H locs hP hD hS ls hl
      by_cases e26 : z = 26
      · refine lv_tableIn (off := 1002) (tgt := 1035) hx hb dL_law_33 (by rw [e26]; decide) (by rw [e26]; decide) (by rw [e26]; rfl) (by decide) ?_
        exact law_c26 l D cI cO tF ad bd B hX hbl hbA X M hR x3 h0 h1 hL kk H locs hP hD hS ls hl
      by_cases e27 : z = 27
      · refine lv_tableIn (off := 1046) (tgt := 1079) hx hb dL_law_33 (by rw [e27]; decide) (by rw [e27]; decide) (by rw [e27]; rfl) (by decide) ?_
        exact law_c27 l D cI cO tF ad bd B hX hbl hbA X M hR x3 h0 h1 hL kk H locs hP hD hS ls hl
      by_cases e28 : z = 28
      · refine lv_tableIn (off := 1109) (tgt := 1142) hx hb dL_law_33 (by rw [e28]; decide) (by rw [e28]; decide) (by rw [e28]; rfl) (by decide) ?_
        exact law_c28 l D cI cO tF ad bd B hX hbl hbA X M hR x3 h0 h1 hL kk H locs hP hD hS ls hl
      by_cases e29 : z = 29
      · refine lv_tableIn (off := 1132) (tgt := 1165) hx hb dL_law_33 (by rw [e29]; decide) (by rw [e29]; decide) (by rw [e29]; rfl) (by decide) ?_
        exact law_c29 l D cI cO tF ad bd B hX hbl hbA X M hR x3 h0 h1 hL kk H locs hP hD hS ls hl
      by_cases e30 : z = 30
      · refine lv_tableIn (off := 1155) (tgt := 1188) hx hb dL_law_33 (by rw [e30]; decide) (by rw [e30]; decide) (by rw [e30]; rfl) (by decide) ?_
        exact law_c30 l D cI cO tF ad bd B hX hbl hbA X M hR x3 h0 h1 hL kk H locs hP hD hS ls hl
      by_cases e31 : z = 31
      · refine lv_tableIn (off := 1188) (tgt := 1221) hx hb dL_law_33 (by rw [e31]; decide) (by rw [e31]; decide) (by rw [e31]; rfl) (by decide) ?_
        exact law_c31 l D cI cO tF ad bd B hX hbl hbA X M hR x3 h0 h1 hL kk H locs hP hD hS ls hl
      by_cases e32 : z = 32
      · refine lv_tableIn (off := 1201) (tgt := 1234) hx hb dL_law_33 (by rw [e32]; decide) (by rw [e32]; decide) (by rw [e32]; rfl) (by decide) ?_
        exact law_c32 l D cI cO tF ad bd B hX hbl hbA X M hR x3 h0 h1 hL kk H locs hP hD hS ls hl
      by_cases e33 : z = 33
      · refine lv_tableIn (off := 1214) (tgt := 1247) hx hb dL_law_33 (by rw [e33]; decide) (by rw [e33]; decide) (by rw [e33]; rfl) (by decide) ?_
        exact law_c33 l D cI cO tF ad bd B hX hbl hbA X M hR x3 h0 h1 hL kk H locs hP hD hS ls hl
      refine lv_tableOut (tgt := 1270) hx hb dL_law_33 (sw_out34 e0 e1 e2 e3 e4 e5 e6 e7 e8 e9 e10 e11 e12 e13 e14 e15 e16 e17 e18 e19 e20 e21 e22 e23 e24 e25 e26 e27 e28 e29 e30 e31 e32 e33) (by decide) ?_
      exact kk X M hR H locs hP hD hS ls hl
