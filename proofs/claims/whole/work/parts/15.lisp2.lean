def fL_X3_bestAsked_27 (X : XS) (x1 : Int32) (x2 : Int32) (x3 : Int32) : Nat → Int32 → Int32 → Int32 → Int32 → Int32
  | 0, _, _, _, _ => 0
  | k + 1, x4, x5, x6, x7 => (if (f_X2_allSets (X_now X)) ≤ x7 then x4 else (if x4 = (-9 : Int32) then (if (x7 &&& (x3 ^^^ (-1 : Int32))) = 0 then (if (((T_parts (X_now X)) x1.toNatClampNeg) + (f_X2_partsOf (X_now X) x7)) < x2 then fL_X3_bestAsked_27 X x1 x2 x3 k x4 x5 x6 (x7 + (1 : Int32)) else fL_X3_bestAsked_27 X x1 x2 x3 k x7 (f_J6_bitCount_0f7a4 x7) (((T_parts (X_now X)) x1.toNatClampNeg) + (f_X2_partsOf (X_now X) x7)) (x7 + (1 : Int32))) else fL_X3_bestAsked_27 X x1 x2 x3 k x4 x5 x6 (x7 + (1 : Int32))) else (if (f_J6_bitCount_0f7a4 x7) < x5 then (if (x7 &&& (x3 ^^^ (-1 : Int32))) = 0 then (if (((T_parts (X_now X)) x1.toNatClampNeg) + (f_X2_partsOf (X_now X) x7)) < x2 then fL_X3_bestAsked_27 X x1 x2 x3 k x4 x5 x6 (x7 + (1 : Int32)) else fL_X3_bestAsked_27 X x1 x2 x3 k x7 (f_J6_bitCount_0f7a4 x7) (((T_parts (X_now X)) x1.toNatClampNeg) + (f_X2_partsOf (X_now X) x7)) (x7 + (1 : Int32))) else fL_X3_bestAsked_27 X x1 x2 x3 k x4 x5 x6 (x7 + (1 : Int32))) else (if (f_J6_bitCount_0f7a4 x7) = x5 then (if x6 ≤ (((T_parts (X_now X)) x1.toNatClampNeg) + (f_X2_partsOf (X_now X) x7)) then (if (x7 &&& (x3 ^^^ (-1 : Int32))) = 0 then (if (((T_parts (X_now X)) x1.toNatClampNeg) + (f_X2_partsOf (X_now X) x7)) < x2 then fL_X3_bestAsked_27 X x1 x2 x3 k x4 x5 x6 (x7 + (1 : Int32)) else fL_X3_bestAsked_27 X x1 x2 x3 k x4 x5 x6 (x7 + (1 : Int32))) else fL_X3_bestAsked_27 X x1 x2 x3 k x4 x5 x6 (x7 + (1 : Int32))) else (if (x7 &&& (x3 ^^^ (-1 : Int32))) = 0 then (if (((T_parts (X_now X)) x1.toNatClampNeg) + (f_X2_partsOf (X_now X) x7)) < x2 then fL_X3_bestAsked_27 X x1 x2 x3 k x4 x5 x6 (x7 + (1 : Int32)) else fL_X3_bestAsked_27 X x1 x2 x3 k x7 (f_J6_bitCount_0f7a4 x7) (((T_parts (X_now X)) x1.toNatClampNeg) + (f_X2_partsOf (X_now X) x7)) (x7 + (1 : Int32))) else fL_X3_bestAsked_27 X x1 x2 x3 k x4 x5 x6 (x7 + (1 : Int32)))) else (if (x7 &&& (x3 ^^^ (-1 : Int32))) = 0 then (if (((T_parts (X_now X)) x1.toNatClampNeg) + (f_X2_partsOf (X_now X) x7)) < x2 then fL_X3_bestAsked_27 X x1 x2 x3 k x4 x5 x6 (x7 + (1 : Int32)) else fL_X3_bestAsked_27 X x1 x2 x3 k x4 x5 x6 (x7 + (1 : Int32))) else fL_X3_bestAsked_27 X x1 x2 x3 k x4 x5 x6 (x7 + (1 : Int32)))))))
def f_X3_bestAsked (X : XS) (x1 : Int32) (x2 : Int32) : Int32 := fL_X3_bestAsked_27 X x1 x2 ((T_inside (X_now X)) &&& (((1 : Int32) <<< (x1 &&& 31)) ^^^ (-1 : Int32))) ((f_X2_allSets (X_now X)).toInt.toNat + 1) (-9 : Int32) (0 : Int32) (0 : Int32) (0 : Int32)
theorem iw_X3_bestAsked_2 : ∀ w ∈ wsX20, w ∈ wsX3_bestAsked := fun _ h => List.mem_cons_of_mem _ (List.mem_append_right _ h)
theorem iw_X3_bestAsked_3 : ∀ w ∈ wsX30, w ∈ wsX3_bestAsked := fun _ h => List.mem_cons_of_mem _ (List.mem_append_left _ (List.mem_append_right _ h))
set_option maxHeartbeats 4000000 in
set_option maxRecDepth 100000 in
theorem L_X3_bestAsked_27 {p : Program} (l : Launch) {e : Env} {s : State} {m : MethodId} {args : Array Value} {below : List Frame} {meth : Method} {c : Code} {A : Nat → Prop} (D : va_G) (cI cO : ClassId) (tF : Nat) (ad : Nat → Nat) (X : XS) (x1 : Int32) (x2 : Int32) (x3 : Int32) (hn : (T_count (X_now X)).toInt ≤ 6) (hp : vp_in x1 6) (B : Bx p s m args meth c cX3_bestAsked 11 (some .int) wsX3_bestAsked RX3 D cI cO tF A) : ∀ (k : Nat) (x4 : Int32) (x5 : Int32) (x6 : Int32) (x7 : Int32), (0 ≤ x7.toInt) → (((f_X2_allSets (X_now X)).toInt - x7.toInt).toNat < k) → ∀ (H : Heap) (locs : List Loc), va_P D vwCl (wX ad cI cO X) H → va_D A (wX ad cI cO X) → va_S A s.heap H locs → ∀ ls : Array Slot, lv_has ls 11 [(0, .ref (ad 0)), (1, .int x1), (2, .int x2), (3, .int x3), (4, .int x4), (5, .int x5), (6, .int x6), (7, .int x7)] → W p l e ({ frames := 2, cells := 0, slots := 0, locals := 44 }) s m args below meth c H locs 0 0 (MQ below (Qp D (some (.int (fL_X3_bestAsked_27 X x1 x2 x3 k x4 x5 x6 x7))) (wX ad cI cO X) A) args s 0 0 A) (F0 m 27 ls []) := by
  obtain ⟨hx, hb, hret, hml, hts, hown, hlocks, hE, hA⟩ := id B
  have hK := hE.1
  intro k
  induction k with
  | zero =>
    intro x4 x5 x6 x7 h0 hk
    exact absurd hk (Nat.not_lt_zero _)
  | succ k ih =>
    intro x4 x5 x6 x7 h0 hk H locs hP hD hS ls hl
    refine lv_iload hx hb dX3_bestAsked_27 (lv_at hl 7 rfl) ?_
    refine lv_aload_n hx hb dX3_bestAsked_29 rfl (lv_at hl 0 rfl) ?_
    refine va_get (D := D) (ci := 3) (v := .ref (ad 2)) (C := RX3) (T := TX3) (N := 7) hx hb hts iw_X3_bestAsked_3 hown hK hP 0 rfl rfl 1 (by decide) (hts (.fieldLink RX3 20 "TownLisp" "now" "LTownLisp$Town;") (by decide +kernel)) (fun _ h9 => h9) rfl dX3_bestAsked_30 ?_
    refine kc_V (As := []) (rest := [.int x7]) B (c_X2_allSets l D cI cO tF (ad 2) (ad 3) (ad 4) (ad 5) (X_now X) ) (cwV 0 hts gX3_bestAsked_X2_allSets rfl rfl rfl (by decide +kernel) ⟨Nat.le_of_ble_eq_true rfl, Nat.le_of_ble_eq_true rfl⟩) hP hD hS [2, 3, 4, 5] wX_subN (by decide) (w' := wX ad cI cO X) (wX_sameN) rfl 2 2 rfl rfl rfl rfl hl.1 rfl (Nat.le_of_ble_eq_true rfl) dX3_bestAsked_33 ⟨Nat.zero_le _, Nat.zero_le _⟩ (fun H locs hP hD hS => ?_)
    have hD : va_D A (wX ad cI cO X) := hD
    refine lv_icmp_ge (tgt := 140) hx hb dX3_bestAsked_36 (by decide) (fun c_36 => ?_) (fun c_36 => ?_)
    · refine lv_iload hx hb dX3_bestAsked_140 (lv_at hl 4 rfl) ?_
      have hF : fL_X3_bestAsked_27 X x1 x2 x3 (k + 1) x4 x5 x6 x7 = x4 := by rw [fL_X3_bestAsked_27, if_pos c_36]
      rw [hF]
      exact kr_i B hP hS rfl rfl dX3_bestAsked_142
    · refine lv_iload hx hb dX3_bestAsked_39 (lv_at hl 7 rfl) ?_
      refine kc_S (As := [.int x7]) (rest := []) B (c_J6_bitCount_0f7a4 l D cI cO tF x7 ) (va_cwS 1 hts gX3_bestAsked_J6_bitCount_0f7a4 rfl rfl rfl (by decide +kernel) ⟨Nat.le_of_ble_eq_true rfl, Nat.le_of_ble_eq_true rfl⟩) hP hD hS [] rfl (by decide) (w' := wX ad cI cO X) rfl rfl rfl hl.1 rfl (Nat.le_of_ble_eq_true rfl) dX3_bestAsked_41 ⟨Nat.zero_le _, Nat.zero_le _⟩ (fun H locs hP hD hS => ?_)
      have hD : va_D A (wX ad cI cO X) := hD
      refine lv_istore (lv' := [(8, .int (f_J6_bitCount_0f7a4 x7)), (0, .ref (ad 0)), (1, .int x1), (2, .int x2), (3, .int x3), (4, .int x4), (5, .int x5), (6, .int x6), (7, .int x7)]) hx hb dX3_bestAsked_44 hl (by decide) rfl (fun ls hl => ?_)
      refine lv_aload_n hx hb dX3_bestAsked_46 rfl (lv_at hl 1 rfl) ?_
      refine va_get (D := D) (ci := 3) (v := .ref (ad 2)) (C := RX3) (T := TX3) (N := 7) hx hb hts iw_X3_bestAsked_3 hown hK hP 0 rfl rfl 1 (by decide) (hts (.fieldLink RX3 20 "TownLisp" "now" "LTownLisp$Town;") (by decide +kernel)) (fun _ h9 => h9) rfl dX3_bestAsked_47 ?_
      refine va_get (D := D) (ci := 2) (v := .ref (ad 4)) (C := RX2) (T := TX2) (N := 6) hx hb hts iw_X3_bestAsked_2 hown hK hP 2 rfl rfl 1 (by decide) (hts (.fieldLink RX3 77 "TownLisp$Town" "parts" "[I") (by decide +kernel)) (fun _ h9 => h9) rfl dX3_bestAsked_50 ?_
      refine lv_iload_n hx hb dX3_bestAsked_53 rfl (lv_at hl 2 rfl) ?_
      refine va_iald hx hb hK hP 4 0 rfl rfl (hp) dX3_bestAsked_54 ?_
      refine lv_aload_n hx hb dX3_bestAsked_55 rfl (lv_at hl 1 rfl) ?_
      refine va_get (D := D) (ci := 3) (v := .ref (ad 2)) (C := RX3) (T := TX3) (N := 7) hx hb hts iw_X3_bestAsked_3 hown hK hP 0 rfl rfl 1 (by decide) (hts (.fieldLink RX3 20 "TownLisp" "now" "LTownLisp$Town;") (by decide +kernel)) (fun _ h9 => h9) rfl dX3_bestAsked_56 ?_
      refine lv_iload hx hb dX3_bestAsked_59 (lv_at hl 8 rfl) ?_
      refine kc_V (As := [.int x7]) (rest := [.int ((T_parts (X_now X)) x1.toNatClampNeg)]) B (c_X2_partsOf l D cI cO tF (ad 2) (ad 3) (ad 4) (ad 5) (X_now X) x7 (hn)) (cwV 1 hts gX3_bestAsked_X2_partsOf rfl rfl rfl (by decide +kernel) ⟨Nat.le_of_ble_eq_true rfl, Nat.le_of_ble_eq_true rfl⟩) hP hD hS [2, 3, 4, 5] wX_subN (by decide) (w' := wX ad cI cO X) (wX_sameN) rfl 2 2 rfl rfl rfl rfl hl.1 rfl (Nat.le_of_ble_eq_true rfl) dX3_bestAsked_61 ⟨Nat.zero_le _, Nat.zero_le _⟩ (fun H locs hP hD hS => ?_)
      have hD : va_D A (wX ad cI cO X) := hD
      refine lv_iadd hx hb dX3_bestAsked_64 ?_
      refine lv_istore (lv' := [(9, .int (((T_parts (X_now X)) x1.toNatClampNeg) + (f_X2_partsOf (X_now X) x7))), (8, .int (f_J6_bitCount_0f7a4 x7)), (0, .ref (ad 0)), (1, .int x1), (2, .int x2), (3, .int x3), (4, .int x4), (5, .int x5), (6, .int x6), (7, .int x7)]) hx hb dX3_bestAsked_65 hl (by decide) rfl (fun ls hl => ?_)
      refine lv_iload hx hb dX3_bestAsked_67 (lv_at hl 6 rfl) ?_
      refine lv_bipush (v := (-9 : Int32)) hx hb dX3_bestAsked_69 (by decide) ?_
      refine lv_icmp_eq (tgt := 95) hx hb dX3_bestAsked_71 (by decide) (fun c_71 => ?_) (fun c_71 => ?_)
      · refine lv_iconst (v := (1 : Int32)) hx hb dX3_bestAsked_95 (by decide) ?_
        refine lv_goto (tgt := 100) hx hb dX3_bestAsked_96 (by decide) ?_
        refine lv_istore (lv' := [(10, .int (1 : Int32)), (9, .int (((T_parts (X_now X)) x1.toNatClampNeg) + (f_X2_partsOf (X_now X) x7))), (8, .int (f_J6_bitCount_0f7a4 x7)), (0, .ref (ad 0)), (1, .int x1), (2, .int x2), (3, .int x3), (4, .int x4), (5, .int x5), (6, .int x6), (7, .int x7)]) hx hb dX3_bestAsked_100 hl (by decide) rfl (fun ls hl => ?_)
        refine lv_iload hx hb dX3_bestAsked_102 (lv_at hl 10 rfl) ?_
        refine lv_iload_n hx hb dX3_bestAsked_104 rfl (lv_at hl 6 rfl) ?_
        refine lv_iconst (v := (-1 : Int32)) hx hb dX3_bestAsked_105 (by decide) ?_
        refine lv_ixor hx hb dX3_bestAsked_106 ?_
        refine lv_iand hx hb dX3_bestAsked_107 ?_
        refine lv_if_ne (tgt := 134) hx hb dX3_bestAsked_108 (by decide) (fun c_108 => ?_) (fun c_108 => ?_)
        · refine lv_iinc (v := (x7 + (1 : Int32))) (lv' := [(7, .int (x7 + (1 : Int32))), (10, .int (1 : Int32)), (9, .int (((T_parts (X_now X)) x1.toNatClampNeg) + (f_X2_partsOf (X_now X) x7))), (8, .int (f_J6_bitCount_0f7a4 x7)), (0, .ref (ad 0)), (1, .int x1), (2, .int x2), (3, .int x3), (4, .int x4), (5, .int x5), (6, .int x6)]) hx hb dX3_bestAsked_134 hl (k := 10) rfl rfl (by decide) rfl (fun ls hl => ?_)
          refine lv_goto (tgt := 27) hx hb dX3_bestAsked_137 (by decide) ?_
          have hF : fL_X3_bestAsked_27 X x1 x2 x3 (k + 1) x4 x5 x6 x7 = fL_X3_bestAsked_27 X x1 x2 x3 k x4 x5 x6 (x7 + (1 : Int32)) := by rw [fL_X3_bestAsked_27, if_neg c_36, if_pos c_71, if_neg c_108]
          rw [hF]
          exact ih x4 x5 x6 (x7 + (1 : Int32)) (lp_pre h0 c_36) (lp_mu h0 c_36 hk) _ _ hP hD hS ls (lv_sub hl [4, 5, 6, 7, 8, 9, 10, 0] rfl)
        · refine lv_iload hx hb dX3_bestAsked_111 (lv_at hl 1 rfl) ?_
          refine lv_iload_n hx hb dX3_bestAsked_113 rfl (lv_at hl 5 rfl) ?_
          refine lv_icmp_lt (tgt := 134) hx hb dX3_bestAsked_114 (by decide) (fun c_114 => ?_) (fun c_114 => ?_)
          · refine lv_iinc (v := (x7 + (1 : Int32))) (lv' := [(7, .int (x7 + (1 : Int32))), (10, .int (1 : Int32)), (9, .int (((T_parts (X_now X)) x1.toNatClampNeg) + (f_X2_partsOf (X_now X) x7))), (8, .int (f_J6_bitCount_0f7a4 x7)), (0, .ref (ad 0)), (1, .int x1), (2, .int x2), (3, .int x3), (4, .int x4), (5, .int x5), (6, .int x6)]) hx hb dX3_bestAsked_134 hl (k := 10) rfl rfl (by decide) rfl (fun ls hl => ?_)
            refine lv_goto (tgt := 27) hx hb dX3_bestAsked_137 (by decide) ?_
            have hF : fL_X3_bestAsked_27 X x1 x2 x3 (k + 1) x4 x5 x6 x7 = fL_X3_bestAsked_27 X x1 x2 x3 k x4 x5 x6 (x7 + (1 : Int32)) := by rw [fL_X3_bestAsked_27, if_neg c_36, if_pos c_71, if_pos c_108, if_pos c_114]
            rw [hF]
            exact ih x4 x5 x6 (x7 + (1 : Int32)) (lp_pre h0 c_36) (lp_mu h0 c_36 hk) _ _ hP hD hS ls (lv_sub hl [4, 5, 6, 7, 8, 9, 10, 0] rfl)
          · refine lv_iload hx hb dX3_bestAsked_117 (lv_at hl 0 rfl) ?_
            refine lv_if_eq (tgt := 134) hx hb dX3_bestAsked_119 (by decide) (fun h => absurd h (by decide)) (fun _ => ?_)
            refine lv_iload hx hb dX3_bestAsked_122 (lv_at hl 10 rfl) ?_
            refine lv_istore (lv' := [(4, .int x7), (10, .int (1 : Int32)), (9, .int (((T_parts (X_now X)) x1.toNatClampNeg) + (f_X2_partsOf (X_now X) x7))), (8, .int (f_J6_bitCount_0f7a4 x7)), (0, .ref (ad 0)), (1, .int x1), (2, .int x2), (3, .int x3), (5, .int x5), (6, .int x6), (7, .int x7)]) hx hb dX3_bestAsked_124 hl (by decide) rfl (fun ls hl => ?_)
            refine lv_iload hx hb dX3_bestAsked_126 (lv_at hl 3 rfl) ?_
            refine lv_istore (lv' := [(5, .int (f_J6_bitCount_0f7a4 x7)), (4, .int x7), (10, .int (1 : Int32)), (9, .int (((T_parts (X_now X)) x1.toNatClampNeg) + (f_X2_partsOf (X_now X) x7))), (8, .int (f_J6_bitCount_0f7a4 x7)), (0, .ref (ad 0)), (1, .int x1), (2, .int x2), (3, .int x3), (6, .int x6), (7, .int x7)]) hx hb dX3_bestAsked_128 hl (by decide) rfl (fun ls hl => ?_)
            refine lv_iload hx hb dX3_bestAsked_130 (lv_at hl 3 rfl) ?_
            refine lv_istore (lv' := [(6, .int (((T_parts (X_now X)) x1.toNatClampNeg) + (f_X2_partsOf (X_now X) x7))), (5, .int (f_J6_bitCount_0f7a4 x7)), (4, .int x7), (10, .int (1 : Int32)), (9, .int (((T_parts (X_now X)) x1.toNatClampNeg) + (f_X2_partsOf (X_now X) x7))), (8, .int (f_J6_bitCount_0f7a4 x7)), (0, .ref (ad 0)), (1, .int x1), (2, .int x2), (3, .int x3), (7, .int x7)]) hx hb dX3_bestAsked_132 hl (by decide) rfl (fun ls hl => ?_)
            refine lv_iinc (v := (x7 + (1 : Int32))) (lv' := [(7, .int (x7 + (1 : Int32))), (6, .int (((T_parts (X_now X)) x1.toNatClampNeg) + (f_X2_partsOf (X_now X) x7))), (5, .int (f_J6_bitCount_0f7a4 x7)), (4, .int x7), (10, .int (1 : Int32)), (9, .int (((T_parts (X_now X)) x1.toNatClampNeg) + (f_X2_partsOf (X_now X) x7))), (8, .int (f_J6_bitCount_0f7a4 x7)), (0, .ref (ad 0)), (1, .int x1), (2, .int x2), (3, .int x3)]) hx hb dX3_bestAsked_134 hl (k := 10) rfl rfl (by decide) rfl (fun ls hl => ?_)
            refine lv_goto (tgt := 27) hx hb dX3_bestAsked_137 (by decide) ?_
            have hF : fL_X3_bestAsked_27 X x1 x2 x3 (k + 1) x4 x5 x6 x7 = fL_X3_bestAsked_27 X x1 x2 x3 k x7 (f_J6_bitCount_0f7a4 x7) (((T_parts (X_now X)) x1.toNatClampNeg) + (f_X2_partsOf (X_now X) x7)) (x7 + (1 : Int32)) := by rw [fL_X3_bestAsked_27, if_neg c_36, if_pos c_71, if_pos c_108, if_neg c_114]
            rw [hF]
            exact ih x7 (f_J6_bitCount_0f7a4 x7) (((T_parts (X_now X)) x1.toNatClampNeg) + (f_X2_partsOf (X_now X) x7)) (x7 + (1 : Int32)) (lp_pre h0 c_36) (lp_mu h0 c_36 hk) _ _ hP hD hS ls (lv_sub hl [7, 8, 9, 10, 3, 2, 1, 0] rfl)
      · refine lv_iload hx hb dX3_bestAsked_74 (lv_at hl 1 rfl) ?_
        refine lv_iload hx hb dX3_bestAsked_76 (lv_at hl 7 rfl) ?_
        refine lv_icmp_lt (tgt := 95) hx hb dX3_bestAsked_78 (by decide) (fun c_78 => ?_) (fun c_78 => ?_)
        · refine lv_iconst (v := (1 : Int32)) hx hb dX3_bestAsked_95 (by decide) ?_
          refine lv_goto (tgt := 100) hx hb dX3_bestAsked_96 (by decide) ?_
          refine lv_istore (lv' := [(10, .int (1 : Int32)), (9, .int (((T_parts (X_now X)) x1.toNatClampNeg) + (f_X2_partsOf (X_now X) x7))), (8, .int (f_J6_bitCount_0f7a4 x7)), (0, .ref (ad 0)), (1, .int x1), (2, .int x2), (3, .int x3), (4, .int x4), (5, .int x5), (6, .int x6), (7, .int x7)]) hx hb dX3_bestAsked_100 hl (by decide) rfl (fun ls hl => ?_)
          refine lv_iload hx hb dX3_bestAsked_102 (lv_at hl 10 rfl) ?_
          refine lv_iload_n hx hb dX3_bestAsked_104 rfl (lv_at hl 6 rfl) ?_
          refine lv_iconst (v := (-1 : Int32)) hx hb dX3_bestAsked_105 (by decide) ?_
          refine lv_ixor hx hb dX3_bestAsked_106 ?_
          refine lv_iand hx hb dX3_bestAsked_107 ?_
          refine lv_if_ne (tgt := 134) hx hb dX3_bestAsked_108 (by decide) (fun c_108 => ?_) (fun c_108 => ?_)
          · refine lv_iinc (v := (x7 + (1 : Int32))) (lv' := [(7, .int (x7 + (1 : Int32))), (10, .int (1 : Int32)), (9, .int (((T_parts (X_now X)) x1.toNatClampNeg) + (f_X2_partsOf (X_now X) x7))), (8, .int (f_J6_bitCount_0f7a4 x7)), (0, .ref (ad 0)), (1, .int x1), (2, .int x2), (3, .int x3), (4, .int x4), (5, .int x5), (6, .int x6)]) hx hb dX3_bestAsked_134 hl (k := 10) rfl rfl (by decide) rfl (fun ls hl => ?_)
            refine lv_goto (tgt := 27) hx hb dX3_bestAsked_137 (by decide) ?_
            have hF : fL_X3_bestAsked_27 X x1 x2 x3 (k + 1) x4 x5 x6 x7 = fL_X3_bestAsked_27 X x1 x2 x3 k x4 x5 x6 (x7 + (1 : Int32)) := by rw [fL_X3_bestAsked_27, if_neg c_36, if_neg c_71, if_pos c_78, if_neg c_108]
            rw [hF]
            exact ih x4 x5 x6 (x7 + (1 : Int32)) (lp_pre h0 c_36) (lp_mu h0 c_36 hk) _ _ hP hD hS ls (lv_sub hl [4, 5, 6, 7, 8, 9, 10, 0] rfl)
          · refine lv_iload hx hb dX3_bestAsked_111 (lv_at hl 1 rfl) ?_
            refine lv_iload_n hx hb dX3_bestAsked_113 rfl (lv_at hl 5 rfl) ?_
            refine lv_icmp_lt (tgt := 134) hx hb dX3_bestAsked_114 (by decide) (fun c_114 => ?_) (fun c_114 => ?_)
            · refine lv_iinc (v := (x7 + (1 : Int32))) (lv' := [(7, .int (x7 + (1 : Int32))), (10, .int (1 : Int32)), (9, .int (((T_parts (X_now X)) x1.toNatClampNeg) + (f_X2_partsOf (X_now X) x7))), (8, .int (f_J6_bitCount_0f7a4 x7)), (0, .ref (ad 0)), (1, .int x1), (2, .int x2), (3, .int x3), (4, .int x4), (5, .int x5), (6, .int x6)]) hx hb dX3_bestAsked_134 hl (k := 10) rfl rfl (by decide) rfl (fun ls hl => ?_)
              refine lv_goto (tgt := 27) hx hb dX3_bestAsked_137 (by decide) ?_
              have hF : fL_X3_bestAsked_27 X x1 x2 x3 (k + 1) x4 x5 x6 x7 = fL_X3_bestAsked_27 X x1 x2 x3 k x4 x5 x6 (x7 + (1 : Int32)) := by rw [fL_X3_bestAsked_27, if_neg c_36, if_neg c_71, if_pos c_78, if_pos c_108, if_pos c_114]
              rw [hF]
              exact ih x4 x5 x6 (x7 + (1 : Int32)) (lp_pre h0 c_36) (lp_mu h0 c_36 hk) _ _ hP hD hS ls (lv_sub hl [4, 5, 6, 7, 8, 9, 10, 0] rfl)
            · refine lv_iload hx hb dX3_bestAsked_117 (lv_at hl 0 rfl) ?_
              refine lv_if_eq (tgt := 134) hx hb dX3_bestAsked_119 (by decide) (fun h => absurd h (by decide)) (fun _ => ?_)
              refine lv_iload hx hb dX3_bestAsked_122 (lv_at hl 10 rfl) ?_
              refine lv_istore (lv' := [(4, .int x7), (10, .int (1 : Int32)), (9, .int (((T_parts (X_now X)) x1.toNatClampNeg) + (f_X2_partsOf (X_now X) x7))), (8, .int (f_J6_bitCount_0f7a4 x7)), (0, .ref (ad 0)), (1, .int x1), (2, .int x2), (3, .int x3), (5, .int x5), (6, .int x6), (7, .int x7)]) hx hb dX3_bestAsked_124 hl (by decide) rfl (fun ls hl => ?_)
              refine lv_iload hx hb dX3_bestAsked_126 (lv_at hl 3 rfl) ?_
              refine lv_istore (lv' := [(5, .int (f_J6_bitCount_0f7a4 x7)), (4, .int x7), (10, .int (1 : Int32)), (9, .int (((T_parts (X_now X)) x1.toNatClampNeg) + (f_X2_partsOf (X_now X) x7))), (8, .int (f_J6_bitCount_0f7a4 x7)), (0, .ref (ad 0)), (1, .int x1), (2, .int x2), (3, .int x3), (6, .int x6), (7, .int x7)]) hx hb dX3_bestAsked_128 hl (by decide) rfl (fun ls hl => ?_)
              refine lv_iload hx hb dX3_bestAsked_130 (lv_at hl 3 rfl) ?_
              refine lv_istore (lv' := [(6, .int (((T_parts (X_now X)) x1.toNatClampNeg) + (f_X2_partsOf (X_now X) x7))), (5, .int (f_J6_bitCount_0f7a4 x7)), (4, .int x7), (10, .int (1 : Int32)), (9, .int (((T_parts (X_now X)) x1.toNatClampNeg) + (f_X2_partsOf (X_now X) x7))), (8, .int (f_J6_bitCount_0f7a4 x7)), (0, .ref (ad 0)), (1, .int x1), (2, .int x2), (3, .int x3), (7, .int x7)]) hx hb dX3_bestAsked_132 hl (by decide) rfl (fun ls hl => ?_)
              refine lv_iinc (v := (x7 + (1 : Int32))) (lv' := [(7, .int (x7 + (1 : Int32))), (6, .int (((T_parts (X_now X)) x1.toNatClampNeg) + (f_X2_partsOf (X_now X) x7))), (5, .int (f_J6_bitCount_0f7a4 x7)), (4, .int x7), (10, .int (1 : Int32)), (9, .int (((T_parts (X_now X)) x1.toNatClampNeg) + (f_X2_partsOf (X_now X) x7))), (8, .int (f_J6_bitCount_0f7a4 x7)), (0, .ref (ad 0)), (1, .int x1), (2, .int x2), (3, .int x3)]) hx hb dX3_bestAsked_134 hl (k := 10) rfl rfl (by decide) rfl (fun ls hl => ?_)
              refine lv_goto (tgt := 27) hx hb dX3_bestAsked_137 (by decide) ?_
              have hF : fL_X3_bestAsked_27 X x1 x2 x3 (k + 1) x4 x5 x6 x7 = fL_X3_bestAsked_27 X x1 x2 x3 k x7 (f_J6_bitCount_0f7a4 x7) (((T_parts (X_now X)) x1.toNatClampNeg) + (f_X2_partsOf (X_now X) x7)) (x7 + (1 : Int32)) := by rw [fL_X3_bestAsked_27, if_neg c_36, if_neg c_71, if_pos c_78, if_pos c_108, if_neg c_114]
              rw [hF]
              exact ih x7 (f_J6_bitCount_0f7a4 x7) (((T_parts (X_now X)) x1.toNatClampNeg) + (f_X2_partsOf (X_now X) x7)) (x7 + (1 : Int32)) (lp_pre h0 c_36) (lp_mu h0 c_36 hk) _ _ hP hD hS ls (lv_sub hl [7, 8, 9, 10, 3, 2, 1, 0] rfl)
        · refine lv_iload hx hb dX3_bestAsked_81 (lv_at hl 1 rfl) ?_
          refine lv_iload hx hb dX3_bestAsked_83 (lv_at hl 7 rfl) ?_
          refine lv_icmp_ne (tgt := 99) hx hb dX3_bestAsked_85 (by decide) (fun c_85 => ?_) (fun c_85 => ?_)
          · refine lv_iconst (v := (0 : Int32)) hx hb dX3_bestAsked_99 (by decide) ?_
            refine lv_istore (lv' := [(10, .int (0 : Int32)), (9, .int (((T_parts (X_now X)) x1.toNatClampNeg) + (f_X2_partsOf (X_now X) x7))), (8, .int (f_J6_bitCount_0f7a4 x7)), (0, .ref (ad 0)), (1, .int x1), (2, .int x2), (3, .int x3), (4, .int x4), (5, .int x5), (6, .int x6), (7, .int x7)]) hx hb dX3_bestAsked_100 hl (by decide) rfl (fun ls hl => ?_)
            refine lv_iload hx hb dX3_bestAsked_102 (lv_at hl 10 rfl) ?_
            refine lv_iload_n hx hb dX3_bestAsked_104 rfl (lv_at hl 6 rfl) ?_
            refine lv_iconst (v := (-1 : Int32)) hx hb dX3_bestAsked_105 (by decide) ?_
            refine lv_ixor hx hb dX3_bestAsked_106 ?_
            refine lv_iand hx hb dX3_bestAsked_107 ?_
            refine lv_if_ne (tgt := 134) hx hb dX3_bestAsked_108 (by decide) (fun c_108 => ?_) (fun c_108 => ?_)
            · refine lv_iinc (v := (x7 + (1 : Int32))) (lv' := [(7, .int (x7 + (1 : Int32))), (10, .int (0 : Int32)), (9, .int (((T_parts (X_now X)) x1.toNatClampNeg) + (f_X2_partsOf (X_now X) x7))), (8, .int (f_J6_bitCount_0f7a4 x7)), (0, .ref (ad 0)), (1, .int x1), (2, .int x2), (3, .int x3), (4, .int x4), (5, .int x5), (6, .int x6)]) hx hb dX3_bestAsked_134 hl (k := 10) rfl rfl (by decide) rfl (fun ls hl => ?_)
              refine lv_goto (tgt := 27) hx hb dX3_bestAsked_137 (by decide) ?_
              have hF : fL_X3_bestAsked_27 X x1 x2 x3 (k + 1) x4 x5 x6 x7 = fL_X3_bestAsked_27 X x1 x2 x3 k x4 x5 x6 (x7 + (1 : Int32)) := by rw [fL_X3_bestAsked_27, if_neg c_36, if_neg c_71, if_neg c_78, if_neg c_85, if_neg c_108]
              rw [hF]
              exact ih x4 x5 x6 (x7 + (1 : Int32)) (lp_pre h0 c_36) (lp_mu h0 c_36 hk) _ _ hP hD hS ls (lv_sub hl [4, 5, 6, 7, 8, 9, 10, 0] rfl)
            · refine lv_iload hx hb dX3_bestAsked_111 (lv_at hl 1 rfl) ?_
              refine lv_iload_n hx hb dX3_bestAsked_113 rfl (lv_at hl 5 rfl) ?_
              refine lv_icmp_lt (tgt := 134) hx hb dX3_bestAsked_114 (by decide) (fun c_114 => ?_) (fun c_114 => ?_)
              · refine lv_iinc (v := (x7 + (1 : Int32))) (lv' := [(7, .int (x7 + (1 : Int32))), (10, .int (0 : Int32)), (9, .int (((T_parts (X_now X)) x1.toNatClampNeg) + (f_X2_partsOf (X_now X) x7))), (8, .int (f_J6_bitCount_0f7a4 x7)), (0, .ref (ad 0)), (1, .int x1), (2, .int x2), (3, .int x3), (4, .int x4), (5, .int x5), (6, .int x6)]) hx hb dX3_bestAsked_134 hl (k := 10) rfl rfl (by decide) rfl (fun ls hl => ?_)
                refine lv_goto (tgt := 27) hx hb dX3_bestAsked_137 (by decide) ?_
                have hF : fL_X3_bestAsked_27 X x1 x2 x3 (k + 1) x4 x5 x6 x7 = fL_X3_bestAsked_27 X x1 x2 x3 k x4 x5 x6 (x7 + (1 : Int32)) := by rw [fL_X3_bestAsked_27, if_neg c_36, if_neg c_71, if_neg c_78, if_neg c_85, if_pos c_108, if_pos c_114]
                rw [hF]
                exact ih x4 x5 x6 (x7 + (1 : Int32)) (lp_pre h0 c_36) (lp_mu h0 c_36 hk) _ _ hP hD hS ls (lv_sub hl [4, 5, 6, 7, 8, 9, 10, 0] rfl)
              · refine lv_iload hx hb dX3_bestAsked_117 (lv_at hl 0 rfl) ?_
                refine lv_if_eq (tgt := 134) hx hb dX3_bestAsked_119 (by decide) (fun _ => ?_) (fun h => absurd h (by decide))
                refine lv_iinc (v := (x7 + (1 : Int32))) (lv' := [(7, .int (x7 + (1 : Int32))), (10, .int (0 : Int32)), (9, .int (((T_parts (X_now X)) x1.toNatClampNeg) + (f_X2_partsOf (X_now X) x7))), (8, .int (f_J6_bitCount_0f7a4 x7)), (0, .ref (ad 0)), (1, .int x1), (2, .int x2), (3, .int x3), (4, .int x4), (5, .int x5), (6, .int x6)]) hx hb dX3_bestAsked_134 hl (k := 10) rfl rfl (by decide) rfl (fun ls hl => ?_)
                refine lv_goto (tgt := 27) hx hb dX3_bestAsked_137 (by decide) ?_
                have hF : fL_X3_bestAsked_27 X x1 x2 x3 (k + 1) x4 x5 x6 x7 = fL_X3_bestAsked_27 X x1 x2 x3 k x4 x5 x6 (x7 + (1 : Int32)) := by rw [fL_X3_bestAsked_27, if_neg c_36, if_neg c_71, if_neg c_78, if_neg c_85, if_pos c_108, if_neg c_114]
                rw [hF]
                exact ih x4 x5 x6 (x7 + (1 : Int32)) (lp_pre h0 c_36) (lp_mu h0 c_36 hk) _ _ hP hD hS ls (lv_sub hl [4, 5, 6, 7, 8, 9, 10, 0] rfl)
          · refine lv_iload hx hb dX3_bestAsked_88 (lv_at hl 0 rfl) ?_
            refine lv_iload hx hb dX3_bestAsked_90 (lv_at hl 8 rfl) ?_
            refine lv_icmp_ge (tgt := 99) hx hb dX3_bestAsked_92 (by decide) (fun c_92 => ?_) (fun c_92 => ?_)
            · refine lv_iconst (v := (0 : Int32)) hx hb dX3_bestAsked_99 (by decide) ?_
              refine lv_istore (lv' := [(10, .int (0 : Int32)), (9, .int (((T_parts (X_now X)) x1.toNatClampNeg) + (f_X2_partsOf (X_now X) x7))), (8, .int (f_J6_bitCount_0f7a4 x7)), (0, .ref (ad 0)), (1, .int x1), (2, .int x2), (3, .int x3), (4, .int x4), (5, .int x5), (6, .int x6), (7, .int x7)]) hx hb dX3_bestAsked_100 hl (by decide) rfl (fun ls hl => ?_)
              refine lv_iload hx hb dX3_bestAsked_102 (lv_at hl 10 rfl) ?_
              refine lv_iload_n hx hb dX3_bestAsked_104 rfl (lv_at hl 6 rfl) ?_
              refine lv_iconst (v := (-1 : Int32)) hx hb dX3_bestAsked_105 (by decide) ?_
              refine lv_ixor hx hb dX3_bestAsked_106 ?_
              refine lv_iand hx hb dX3_bestAsked_107 ?_
              refine lv_if_ne (tgt := 134) hx hb dX3_bestAsked_108 (by decide) (fun c_108 => ?_) (fun c_108 => ?_)
              · refine lv_iinc (v := (x7 + (1 : Int32))) (lv' := [(7, .int (x7 + (1 : Int32))), (10, .int (0 : Int32)), (9, .int (((T_parts (X_now X)) x1.toNatClampNeg) + (f_X2_partsOf (X_now X) x7))), (8, .int (f_J6_bitCount_0f7a4 x7)), (0, .ref (ad 0)), (1, .int x1), (2, .int x2), (3, .int x3), (4, .int x4), (5, .int x5), (6, .int x6)]) hx hb dX3_bestAsked_134 hl (k := 10) rfl rfl (by decide) rfl (fun ls hl => ?_)
                refine lv_goto (tgt := 27) hx hb dX3_bestAsked_137 (by decide) ?_
                have hF : fL_X3_bestAsked_27 X x1 x2 x3 (k + 1) x4 x5 x6 x7 = fL_X3_bestAsked_27 X x1 x2 x3 k x4 x5 x6 (x7 + (1 : Int32)) := by rw [fL_X3_bestAsked_27, if_neg c_36, if_neg c_71, if_neg c_78, if_pos c_85, if_pos c_92, if_neg c_108]
                rw [hF]
                exact ih x4 x5 x6 (x7 + (1 : Int32)) (lp_pre h0 c_36) (lp_mu h0 c_36 hk) _ _ hP hD hS ls (lv_sub hl [4, 5, 6, 7, 8, 9, 10, 0] rfl)
              · refine lv_iload hx hb dX3_bestAsked_111 (lv_at hl 1 rfl) ?_
                refine lv_iload_n hx hb dX3_bestAsked_113 rfl (lv_at hl 5 rfl) ?_
                refine lv_icmp_lt (tgt := 134) hx hb dX3_bestAsked_114 (by decide) (fun c_114 => ?_) (fun c_114 => ?_)
                · refine lv_iinc (v := (x7 + (1 : Int32))) (lv' := [(7, .int (x7 + (1 : Int32))), (10, .int (0 : Int32)), (9, .int (((T_parts (X_now X)) x1.toNatClampNeg) + (f_X2_partsOf (X_now X) x7))), (8, .int (f_J6_bitCount_0f7a4 x7)), (0, .ref (ad 0)), (1, .int x1), (2, .int x2), (3, .int x3), (4, .int x4), (5, .int x5), (6, .int x6)]) hx hb dX3_bestAsked_134 hl (k := 10) rfl rfl (by decide) rfl (fun ls hl => ?_)
                  refine lv_goto (tgt := 27) hx hb dX3_bestAsked_137 (by decide) ?_
                  have hF : fL_X3_bestAsked_27 X x1 x2 x3 (k + 1) x4 x5 x6 x7 = fL_X3_bestAsked_27 X x1 x2 x3 k x4 x5 x6 (x7 + (1 : Int32)) := by rw [fL_X3_bestAsked_27, if_neg c_36, if_neg c_71, if_neg c_78, if_pos c_85, if_pos c_92, if_pos c_108, if_pos c_114]
                  rw [hF]
                  exact ih x4 x5 x6 (x7 + (1 : Int32)) (lp_pre h0 c_36) (lp_mu h0 c_36 hk) _ _ hP hD hS ls (lv_sub hl [4, 5, 6, 7, 8, 9, 10, 0] rfl)
                · refine lv_iload hx hb dX3_bestAsked_117 (lv_at hl 0 rfl) ?_
                  refine lv_if_eq (tgt := 134) hx hb dX3_bestAsked_119 (by decide) (fun _ => ?_) (fun h => absurd h (by decide))
                  refine lv_iinc (v := (x7 + (1 : Int32))) (lv' := [(7, .int (x7 + (1 : Int32))), (10, .int (0 : Int32)), (9, .int (((T_parts (X_now X)) x1.toNatClampNeg) + (f_X2_partsOf (X_now X) x7))), (8, .int (f_J6_bitCount_0f7a4 x7)), (0, .ref (ad 0)), (1, .int x1), (2, .int x2), (3, .int x3), (4, .int x4), (5, .int x5), (6, .int x6)]) hx hb dX3_bestAsked_134 hl (k := 10) rfl rfl (by decide) rfl (fun ls hl => ?_)
                  refine lv_goto (tgt := 27) hx hb dX3_bestAsked_137 (by decide) ?_
                  have hF : fL_X3_bestAsked_27 X x1 x2 x3 (k + 1) x4 x5 x6 x7 = fL_X3_bestAsked_27 X x1 x2 x3 k x4 x5 x6 (x7 + (1 : Int32)) := by rw [fL_X3_bestAsked_27, if_neg c_36, if_neg c_71, if_neg c_78, if_pos c_85, if_pos c_92, if_pos c_108, if_neg c_114]
                  rw [hF]
                  exact ih x4 x5 x6 (x7 + (1 : Int32)) (lp_pre h0 c_36) (lp_mu h0 c_36 hk) _ _ hP hD hS ls (lv_sub hl [4, 5, 6, 7, 8, 9, 10, 0] rfl)
            · refine lv_iconst (v := (1 : Int32)) hx hb dX3_bestAsked_95 (by decide) ?_
              refine lv_goto (tgt := 100) hx hb dX3_bestAsked_96 (by decide) ?_
              refine lv_istore (lv' := [(10, .int (1 : Int32)), (9, .int (((T_parts (X_now X)) x1.toNatClampNeg) + (f_X2_partsOf (X_now X) x7))), (8, .int (f_J6_bitCount_0f7a4 x7)), (0, .ref (ad 0)), (1, .int x1), (2, .int x2), (3, .int x3), (4, .int x4), (5, .int x5), (6, .int x6), (7, .int x7)]) hx hb dX3_bestAsked_100 hl (by decide) rfl (fun ls hl => ?_)
              refine lv_iload hx hb dX3_bestAsked_102 (lv_at hl 10 rfl) ?_
              refine lv_iload_n hx hb dX3_bestAsked_104 rfl (lv_at hl 6 rfl) ?_
              refine lv_iconst (v := (-1 : Int32)) hx hb dX3_bestAsked_105 (by decide) ?_
              refine lv_ixor hx hb dX3_bestAsked_106 ?_
              refine lv_iand hx hb dX3_bestAsked_107 ?_
              refine lv_if_ne (tgt := 134) hx hb dX3_bestAsked_108 (by decide) (fun c_108 => ?_) (fun c_108 => ?_)
              · refine lv_iinc (v := (x7 + (1 : Int32))) (lv' := [(7, .int (x7 + (1 : Int32))), (10, .int (1 : Int32)), (9, .int (((T_parts (X_now X)) x1.toNatClampNeg) + (f_X2_partsOf (X_now X) x7))), (8, .int (f_J6_bitCount_0f7a4 x7)), (0, .ref (ad 0)), (1, .int x1), (2, .int x2), (3, .int x3), (4, .int x4), (5, .int x5), (6, .int x6)]) hx hb dX3_bestAsked_134 hl (k := 10) rfl rfl (by decide) rfl (fun ls hl => ?_)
                refine lv_goto (tgt := 27) hx hb dX3_bestAsked_137 (by decide) ?_
                have hF : fL_X3_bestAsked_27 X x1 x2 x3 (k + 1) x4 x5 x6 x7 = fL_X3_bestAsked_27 X x1 x2 x3 k x4 x5 x6 (x7 + (1 : Int32)) := by rw [fL_X3_bestAsked_27, if_neg c_36, if_neg c_71, if_neg c_78, if_pos c_85, if_neg c_92, if_neg c_108]
                rw [hF]
                exact ih x4 x5 x6 (x7 + (1 : Int32)) (lp_pre h0 c_36) (lp_mu h0 c_36 hk) _ _ hP hD hS ls (lv_sub hl [4, 5, 6, 7, 8, 9, 10, 0] rfl)
              · refine lv_iload hx hb dX3_bestAsked_111 (lv_at hl 1 rfl) ?_
                refine lv_iload_n hx hb dX3_bestAsked_113 rfl (lv_at hl 5 rfl) ?_
                refine lv_icmp_lt (tgt := 134) hx hb dX3_bestAsked_114 (by decide) (fun c_114 => ?_) (fun c_114 => ?_)
                · refine lv_iinc (v := (x7 + (1 : Int32))) (lv' := [(7, .int (x7 + (1 : Int32))), (10, .int (1 : Int32)), (9, .int (((T_parts (X_now X)) x1.toNatClampNeg) + (f_X2_partsOf (X_now X) x7))), (8, .int (f_J6_bitCount_0f7a4 x7)), (0, .ref (ad 0)), (1, .int x1), (2, .int x2), (3, .int x3), (4, .int x4), (5, .int x5), (6, .int x6)]) hx hb dX3_bestAsked_134 hl (k := 10) rfl rfl (by decide) rfl (fun ls hl => ?_)
                  refine lv_goto (tgt := 27) hx hb dX3_bestAsked_137 (by decide) ?_
                  have hF : fL_X3_bestAsked_27 X x1 x2 x3 (k + 1) x4 x5 x6 x7 = fL_X3_bestAsked_27 X x1 x2 x3 k x4 x5 x6 (x7 + (1 : Int32)) := by rw [fL_X3_bestAsked_27, if_neg c_36, if_neg c_71, if_neg c_78, if_pos c_85, if_neg c_92, if_pos c_108, if_pos c_114]
                  rw [hF]
                  exact ih x4 x5 x6 (x7 + (1 : Int32)) (lp_pre h0 c_36) (lp_mu h0 c_36 hk) _ _ hP hD hS ls (lv_sub hl [4, 5, 6, 7, 8, 9, 10, 0] rfl)
                · refine lv_iload hx hb dX3_bestAsked_117 (lv_at hl 0 rfl) ?_
                  refine lv_if_eq (tgt := 134) hx hb dX3_bestAsked_119 (by decide) (fun h => absurd h (by decide)) (fun _ => ?_)
                  refine lv_iload hx hb dX3_bestAsked_122 (lv_at hl 10 rfl) ?_
                  refine lv_istore (lv' := [(4, .int x7), (10, .int (1 : Int32)), (9, .int (((T_parts (X_now X)) x1.toNatClampNeg) + (f_X2_partsOf (X_now X) x7))), (8, .int (f_J6_bitCount_0f7a4 x7)), (0, .ref (ad 0)), (1, .int x1), (2, .int x2), (3, .int x3), (5, .int x5), (6, .int x6), (7, .int x7)]) hx hb dX3_bestAsked_124 hl (by decide) rfl (fun ls hl => ?_)
                  refine lv_iload hx hb dX3_bestAsked_126 (lv_at hl 3 rfl) ?_
                  refine lv_istore (lv' := [(5, .int (f_J6_bitCount_0f7a4 x7)), (4, .int x7), (10, .int (1 : Int32)), (9, .int (((T_parts (X_now X)) x1.toNatClampNeg) + (f_X2_partsOf (X_now X) x7))), (8, .int (f_J6_bitCount_0f7a4 x7)), (0, .ref (ad 0)), (1, .int x1), (2, .int x2), (3, .int x3), (6, .int x6), (7, .int x7)]) hx hb dX3_bestAsked_128 hl (by decide) rfl (fun ls hl => ?_)
                  refine lv_iload hx hb dX3_bestAsked_130 (lv_at hl 3 rfl) ?_
                  refine lv_istore (lv' := [(6, .int (((T_parts (X_now X)) x1.toNatClampNeg) + (f_X2_partsOf (X_now X) x7))), (5, .int (f_J6_bitCount_0f7a4 x7)), (4, .int x7), (10, .int (1 : Int32)), (9, .int (((T_parts (X_now X)) x1.toNatClampNeg) + (f_X2_partsOf (X_now X) x7))), (8, .int (f_J6_bitCount_0f7a4 x7)), (0, .ref (ad 0)), (1, .int x1), (2, .int x2), (3, .int x3), (7, .int x7)]) hx hb dX3_bestAsked_132 hl (by decide) rfl (fun ls hl => ?_)
                  refine lv_iinc (v := (x7 + (1 : Int32))) (lv' := [(7, .int (x7 + (1 : Int32))), (6, .int (((T_parts (X_now X)) x1.toNatClampNeg) + (f_X2_partsOf (X_now X) x7))), (5, .int (f_J6_bitCount_0f7a4 x7)), (4, .int x7), (10, .int (1 : Int32)), (9, .int (((T_parts (X_now X)) x1.toNatClampNeg) + (f_X2_partsOf (X_now X) x7))), (8, .int (f_J6_bitCount_0f7a4 x7)), (0, .ref (ad 0)), (1, .int x1), (2, .int x2), (3, .int x3)]) hx hb dX3_bestAsked_134 hl (k := 10) rfl rfl (by decide) rfl (fun ls hl => ?_)
                  refine lv_goto (tgt := 27) hx hb dX3_bestAsked_137 (by decide) ?_
                  have hF : fL_X3_bestAsked_27 X x1 x2 x3 (k + 1) x4 x5 x6 x7 = fL_X3_bestAsked_27 X x1 x2 x3 k x7 (f_J6_bitCount_0f7a4 x7) (((T_parts (X_now X)) x1.toNatClampNeg) + (f_X2_partsOf (X_now X) x7)) (x7 + (1 : Int32)) := by rw [fL_X3_bestAsked_27, if_neg c_36, if_neg c_71, if_neg c_78, if_pos c_85, if_neg c_92, if_pos c_108, if_neg c_114]
                  rw [hF]
                  exact ih x7 (f_J6_bitCount_0f7a4 x7) (((T_parts (X_now X)) x1.toNatClampNeg) + (f_X2_partsOf (X_now X) x7)) (x7 + (1 : Int32)) (lp_pre h0 c_36) (lp_mu h0 c_36 hk) _ _ hP hD hS ls (lv_sub hl [7, 8, 9, 10, 3, 2, 1, 0] rfl)
set_option maxHeartbeats 4000000 in
set_option maxRecDepth 100000 in
theorem c_X3_bestAsked (l : Launch) (D : va_G) (cI cO : ClassId) (tF : Nat) (ad : Nat → Nat) (X : XS) (x1 : Int32) (x2 : Int32) (hn : (T_count (X_now X)).toInt ≤ 6) (hp : vp_in x1 6) : Ct l yX3_bestAsked wsX3_bestAsked ({ frames := 2, cells := 0, slots := 0, locals := 44 }) D cI cO tF [.ref (ad 0), .int x1, .int x2] (wX ad cI cO X) (some (.int (f_X3_bestAsked X x1 x2))) (wX ad cI cO X) := by
  refine Ct.of (cc := cX3_bestAsked) (maxL := 11) (ret := (some .int)) (own := RX3) (by decide) rfl rfl (Nat.le_of_ble_eq_true rfl) ?_
  intro p e s m args below meth c A ls B hP hD hS hl
  obtain ⟨hx, hb, hret, hml, hts, hown, hlocks, hE, hA⟩ := id B
  have hK := hE.1
  have hl : lv_has ls 11 [(0, .ref (ad 0)), (1, .int x1), (2, .int x2)] := hl
  refine lv_aload_n hx hb dX3_bestAsked_0 rfl (lv_at hl 0 rfl) ?_
  refine va_get (D := D) (ci := 3) (v := .ref (ad 2)) (C := RX3) (T := TX3) (N := 7) hx hb hts iw_X3_bestAsked_3 hown hK hP 0 rfl rfl 1 (by decide) (hts (.fieldLink RX3 20 "TownLisp" "now" "LTownLisp$Town;") (by decide +kernel)) (fun _ h9 => h9) rfl dX3_bestAsked_1 ?_
  refine va_get (D := D) (ci := 2) (v := .int (T_inside (X_now X))) (C := RX2) (T := TX2) (N := 6) hx hb hts iw_X3_bestAsked_2 hown hK hP 2 rfl rfl 4 (by decide) (hts (.fieldLink RX3 93 "TownLisp$Town" "inside" "I") (by decide +kernel)) (fun _ h9 => h9) rfl dX3_bestAsked_4 ?_
  refine lv_iconst (v := (1 : Int32)) hx hb dX3_bestAsked_7 (by decide) ?_
  refine lv_iload_n hx hb dX3_bestAsked_8 rfl (lv_at hl 1 rfl) ?_
  refine lv_ishl hx hb dX3_bestAsked_9 ?_
  refine lv_iconst (v := (-1 : Int32)) hx hb dX3_bestAsked_10 (by decide) ?_
  refine lv_ixor hx hb dX3_bestAsked_11 ?_
  refine lv_iand hx hb dX3_bestAsked_12 ?_
  refine lv_istore_n (lv' := [(3, .int ((T_inside (X_now X)) &&& (((1 : Int32) <<< (x1 &&& 31)) ^^^ (-1 : Int32)))), (0, .ref (ad 0)), (1, .int x1), (2, .int x2)]) hx hb dX3_bestAsked_13 rfl hl (by decide) rfl (fun ls hl => ?_)
  refine lv_bipush (v := (-9 : Int32)) hx hb dX3_bestAsked_14 (by decide) ?_
  refine lv_istore (lv' := [(4, .int (-9 : Int32)), (3, .int ((T_inside (X_now X)) &&& (((1 : Int32) <<< (x1 &&& 31)) ^^^ (-1 : Int32)))), (0, .ref (ad 0)), (1, .int x1), (2, .int x2)]) hx hb dX3_bestAsked_16 hl (by decide) rfl (fun ls hl => ?_)
  refine lv_iconst (v := (0 : Int32)) hx hb dX3_bestAsked_18 (by decide) ?_
  refine lv_istore (lv' := [(5, .int (0 : Int32)), (4, .int (-9 : Int32)), (3, .int ((T_inside (X_now X)) &&& (((1 : Int32) <<< (x1 &&& 31)) ^^^ (-1 : Int32)))), (0, .ref (ad 0)), (1, .int x1), (2, .int x2)]) hx hb dX3_bestAsked_19 hl (by decide) rfl (fun ls hl => ?_)
  refine lv_iconst (v := (0 : Int32)) hx hb dX3_bestAsked_21 (by decide) ?_
  refine lv_istore (lv' := [(6, .int (0 : Int32)), (5, .int (0 : Int32)), (4, .int (-9 : Int32)), (3, .int ((T_inside (X_now X)) &&& (((1 : Int32) <<< (x1 &&& 31)) ^^^ (-1 : Int32)))), (0, .ref (ad 0)), (1, .int x1), (2, .int x2)]) hx hb dX3_bestAsked_22 hl (by decide) rfl (fun ls hl => ?_)
  refine lv_iconst (v := (0 : Int32)) hx hb dX3_bestAsked_24 (by decide) ?_
  refine lv_istore (lv' := [(7, .int (0 : Int32)), (6, .int (0 : Int32)), (5, .int (0 : Int32)), (4, .int (-9 : Int32)), (3, .int ((T_inside (X_now X)) &&& (((1 : Int32) <<< (x1 &&& 31)) ^^^ (-1 : Int32)))), (0, .ref (ad 0)), (1, .int x1), (2, .int x2)]) hx hb dX3_bestAsked_25 hl (by decide) rfl (fun ls hl => ?_)
  have hF : f_X3_bestAsked X x1 x2 = fL_X3_bestAsked_27 X x1 x2 ((T_inside (X_now X)) &&& (((1 : Int32) <<< (x1 &&& 31)) ^^^ (-1 : Int32))) ((f_X2_allSets (X_now X)).toInt.toNat + 1) (-9 : Int32) (0 : Int32) (0 : Int32) (0 : Int32) := by rw [f_X3_bestAsked]
  rw [hF]
  exact L_X3_bestAsked_27 l D cI cO tF ad X x1 x2 ((T_inside (X_now X)) &&& (((1 : Int32) <<< (x1 &&& 31)) ^^^ (-1 : Int32))) hn hp B  ((f_X2_allSets (X_now X)).toInt.toNat + 1) (-9 : Int32) (0 : Int32) (0 : Int32) (0 : Int32) (Int.le_refl _) (by rw [show (0 : Int32).toInt = 0 from rfl]; omega) _ _ hP hD hS ls (lv_sub hl [5, 6, 7, 4, 3, 2, 1, 0] rfl)
def f_X3_asked (X : XS) (x1 : Int32) (x2 : Int32) (x3 : Int32) : Int32 := (if (f_X2_has (X_now X) x1) = 0 then (-1 : Int32) else (if x2 < 0 then (-2 : Int32) else (if (300 : Int32) < x2 then (-2 : Int32) else (if x3 < 0 then (-2 : Int32) else (if x3 ≤ (1 : Int32) then (if (f_X3_bestAsked X x1 x2) = (-9 : Int32) then (f_X3_bestAsked X x1 x2) else (if x3 = 0 then (f_X3_bestAsked X x1 x2) else (((T_parts (X_now X)) x1.toNatClampNeg) + (f_X2_partsOf (X_now X) (f_X3_bestAsked X x1 x2))))) else (-2 : Int32))))))
theorem iw_X3_asked_2 : ∀ w ∈ wsX20, w ∈ wsX3_asked := fun _ h => List.mem_cons_of_mem _ (List.mem_append_right _ h)
theorem iw_X3_asked_3 : ∀ w ∈ wsX30, w ∈ wsX3_asked := fun _ h => List.mem_cons_of_mem _ (List.mem_append_left _ (List.mem_append_right _ h))
set_option maxHeartbeats 4000000 in
set_option maxRecDepth 100000 in
theorem c_X3_asked (l : Launch) (D : va_G) (cI cO : ClassId) (tF : Nat) (ad : Nat → Nat) (X : XS) (x1 : Int32) (x2 : Int32) (x3 : Int32) (hn : (T_count (X_now X)).toInt ≤ 6) : Ct l yX3_asked wsX3_asked ({ frames := 3, cells := 0, slots := 0, locals := 74 }) D cI cO tF [.ref (ad 0), .int x1, .int x2, .int x3] (wX ad cI cO X) (some (.int (f_X3_asked X x1 x2 x3))) (wX ad cI cO X) := by
  refine Ct.of (cc := cX3_asked) (maxL := 5) (ret := (some .int)) (own := RX3) (by decide) rfl rfl (Nat.le_of_ble_eq_true rfl) ?_
  intro p e s m args below meth c A ls B hP hD hS hl
  obtain ⟨hx, hb, hret, hml, hts, hown, hlocks, hE, hA⟩ := id B
  have hK := hE.1
  have hl : lv_has ls 5 [(0, .ref (ad 0)), (1, .int x1), (2, .int x2), (3, .int x3)] := hl
  refine lv_aload_n hx hb dX3_asked_0 rfl (lv_at hl 0 rfl) ?_
  refine va_get (D := D) (ci := 3) (v := .ref (ad 2)) (C := RX3) (T := TX3) (N := 7) hx hb hts iw_X3_asked_3 hown hK hP 0 rfl rfl 1 (by decide) (hts (.fieldLink RX3 20 "TownLisp" "now" "LTownLisp$Town;") (by decide +kernel)) (fun _ h9 => h9) rfl dX3_asked_1 ?_
  refine lv_iload_n hx hb dX3_asked_4 rfl (lv_at hl 1 rfl) ?_
  refine kc_V (As := [.int x1]) (rest := []) B (c_X2_has l D cI cO tF (ad 2) (ad 3) (ad 4) (ad 5) (X_now X) x1 ) (cwV 1 hts gX3_asked_X2_has rfl rfl rfl (by decide +kernel) ⟨Nat.le_of_ble_eq_true rfl, Nat.le_of_ble_eq_true rfl⟩) hP hD hS [2, 3, 4, 5] wX_subN (by decide) (w' := wX ad cI cO X) (wX_sameN) rfl 2 2 rfl rfl rfl rfl hl.1 rfl (Nat.le_of_ble_eq_true rfl) dX3_asked_5 ⟨Nat.zero_le _, Nat.zero_le _⟩ (fun H locs hP hD hS => ?_)
  have hD : va_D A (wX ad cI cO X) := hD
  refine lv_if_ne (tgt := 13) hx hb dX3_asked_8 (by decide) (fun c_8 => ?_) (fun c_8 => ?_)
  · refine lv_iload_n hx hb dX3_asked_13 rfl (lv_at hl 2 rfl) ?_
    refine lv_if_lt (tgt := 33) hx hb dX3_asked_14 (by decide) (fun c_14 => ?_) (fun c_14 => ?_)
    · refine lv_bipush (v := (-2 : Int32)) hx hb dX3_asked_33 (by decide) ?_
      have hF : f_X3_asked X x1 x2 x3 = (-2 : Int32) := by rw [f_X3_asked, if_neg c_8, if_pos c_14]
      rw [hF]
      exact kr_i B hP hS rfl rfl dX3_asked_35
    · refine lv_iload_n hx hb dX3_asked_17 rfl (lv_at hl 2 rfl) ?_
      refine lv_sipush (v := (300 : Int32)) hx hb dX3_asked_18 (by decide) ?_
      refine lv_icmp_gt (tgt := 33) hx hb dX3_asked_21 (by decide) (fun c_21 => ?_) (fun c_21 => ?_)
      · refine lv_bipush (v := (-2 : Int32)) hx hb dX3_asked_33 (by decide) ?_
        have hF : f_X3_asked X x1 x2 x3 = (-2 : Int32) := by rw [f_X3_asked, if_neg c_8, if_neg c_14, if_pos c_21]
        rw [hF]
        exact kr_i B hP hS rfl rfl dX3_asked_35
      · refine lv_iload_n hx hb dX3_asked_24 rfl (lv_at hl 3 rfl) ?_
        refine lv_if_lt (tgt := 33) hx hb dX3_asked_25 (by decide) (fun c_25 => ?_) (fun c_25 => ?_)
        · refine lv_bipush (v := (-2 : Int32)) hx hb dX3_asked_33 (by decide) ?_
          have hF : f_X3_asked X x1 x2 x3 = (-2 : Int32) := by rw [f_X3_asked, if_neg c_8, if_neg c_14, if_neg c_21, if_pos c_25]
          rw [hF]
          exact kr_i B hP hS rfl rfl dX3_asked_35
        · refine lv_iload_n hx hb dX3_asked_28 rfl (lv_at hl 3 rfl) ?_
          refine lv_iconst (v := (1 : Int32)) hx hb dX3_asked_29 (by decide) ?_
          refine lv_icmp_le (tgt := 36) hx hb dX3_asked_30 (by decide) (fun c_30 => ?_) (fun c_30 => ?_)
          · refine lv_aload_n hx hb dX3_asked_36 rfl (lv_at hl 0 rfl) ?_
            refine lv_iload_n hx hb dX3_asked_37 rfl (lv_at hl 1 rfl) ?_
            refine lv_iload_n hx hb dX3_asked_38 rfl (lv_at hl 2 rfl) ?_
            refine kc_V (As := [.int x1, .int x2]) (rest := []) B (c_X3_bestAsked l D cI cO tF ad X x1 x2 (hn) (has_in hn c_8)) (cwV 2 hts gX3_asked_X3_bestAsked rfl rfl rfl (by decide +kernel) ⟨Nat.le_of_ble_eq_true rfl, Nat.le_of_ble_eq_true rfl⟩) hP hD hS [0, 1, 2, 3, 4, 5, 6, 7, 8, 9, 10, 11, 12, 13, 14, 15, 16, 17, 18, 19, 20, 21] wX_subA (by decide) (w' := wX ad cI cO X) (wX_setA _) (wX_fst _) 0 3 rfl rfl rfl rfl hl.1 rfl (Nat.le_of_ble_eq_true rfl) dX3_asked_39 ⟨Nat.zero_le _, Nat.zero_le _⟩ (fun H locs hP hD hS => ?_)
            have hD : va_D A (wX ad cI cO X) := hD
            refine lv_istore (lv' := [(4, .int (f_X3_bestAsked X x1 x2)), (0, .ref (ad 0)), (1, .int x1), (2, .int x2), (3, .int x3)]) hx hb dX3_asked_42 hl (by decide) rfl (fun ls hl => ?_)
            refine lv_iload hx hb dX3_asked_44 (lv_at hl 0 rfl) ?_
            refine lv_bipush (v := (-9 : Int32)) hx hb dX3_asked_46 (by decide) ?_
            refine lv_icmp_eq (tgt := 55) hx hb dX3_asked_48 (by decide) (fun c_48 => ?_) (fun c_48 => ?_)
            · refine lv_iload hx hb dX3_asked_55 (lv_at hl 0 rfl) ?_
              have hF : f_X3_asked X x1 x2 x3 = (f_X3_bestAsked X x1 x2) := by rw [f_X3_asked, if_neg c_8, if_neg c_14, if_neg c_21, if_neg c_25, if_pos c_30, if_pos c_48]
              rw [hF]
              exact kr_i B hP hS rfl rfl dX3_asked_57
            · refine lv_iload_n hx hb dX3_asked_51 rfl (lv_at hl 4 rfl) ?_
              refine lv_if_ne (tgt := 58) hx hb dX3_asked_52 (by decide) (fun c_52 => ?_) (fun c_52 => ?_)
              · refine lv_aload_n hx hb dX3_asked_58 rfl (lv_at hl 1 rfl) ?_
                refine va_get (D := D) (ci := 3) (v := .ref (ad 2)) (C := RX3) (T := TX3) (N := 7) hx hb hts iw_X3_asked_3 hown hK hP 0 rfl rfl 1 (by decide) (hts (.fieldLink RX3 20 "TownLisp" "now" "LTownLisp$Town;") (by decide +kernel)) (fun _ h9 => h9) rfl dX3_asked_59 ?_
                refine va_get (D := D) (ci := 2) (v := .ref (ad 4)) (C := RX2) (T := TX2) (N := 6) hx hb hts iw_X3_asked_2 hown hK hP 2 rfl rfl 1 (by decide) (hts (.fieldLink RX3 77 "TownLisp$Town" "parts" "[I") (by decide +kernel)) (fun _ h9 => h9) rfl dX3_asked_62 ?_
                refine lv_iload_n hx hb dX3_asked_65 rfl (lv_at hl 2 rfl) ?_
                refine va_iald hx hb hK hP 4 0 rfl rfl (has_in hn c_8) dX3_asked_66 ?_
                refine lv_aload_n hx hb dX3_asked_67 rfl (lv_at hl 1 rfl) ?_
                refine va_get (D := D) (ci := 3) (v := .ref (ad 2)) (C := RX3) (T := TX3) (N := 7) hx hb hts iw_X3_asked_3 hown hK hP 0 rfl rfl 1 (by decide) (hts (.fieldLink RX3 20 "TownLisp" "now" "LTownLisp$Town;") (by decide +kernel)) (fun _ h9 => h9) rfl dX3_asked_68 ?_
                refine lv_iload hx hb dX3_asked_71 (lv_at hl 0 rfl) ?_
                refine kc_V (As := [.int (f_X3_bestAsked X x1 x2)]) (rest := [.int ((T_parts (X_now X)) x1.toNatClampNeg)]) B (c_X2_partsOf l D cI cO tF (ad 2) (ad 3) (ad 4) (ad 5) (X_now X) (f_X3_bestAsked X x1 x2) (hn)) (cwV 1 hts gX3_asked_X2_partsOf rfl rfl rfl (by decide +kernel) ⟨Nat.le_of_ble_eq_true rfl, Nat.le_of_ble_eq_true rfl⟩) hP hD hS [2, 3, 4, 5] wX_subN (by decide) (w' := wX ad cI cO X) (wX_sameN) rfl 2 2 rfl rfl rfl rfl hl.1 rfl (Nat.le_of_ble_eq_true rfl) dX3_asked_73 ⟨Nat.zero_le _, Nat.zero_le _⟩ (fun H locs hP hD hS => ?_)
                have hD : va_D A (wX ad cI cO X) := hD
                refine lv_iadd hx hb dX3_asked_76 ?_
                have hF : f_X3_asked X x1 x2 x3 = (((T_parts (X_now X)) x1.toNatClampNeg) + (f_X2_partsOf (X_now X) (f_X3_bestAsked X x1 x2))) := by rw [f_X3_asked, if_neg c_8, if_neg c_14, if_neg c_21, if_neg c_25, if_pos c_30, if_neg c_48, if_neg c_52]
                rw [hF]
                exact kr_i B hP hS rfl rfl dX3_asked_77
              · refine lv_iload hx hb dX3_asked_55 (lv_at hl 0 rfl) ?_
                have hF : f_X3_asked X x1 x2 x3 = (f_X3_bestAsked X x1 x2) := by rw [f_X3_asked, if_neg c_8, if_neg c_14, if_neg c_21, if_neg c_25, if_pos c_30, if_neg c_48, if_pos c_52]
                rw [hF]
                exact kr_i B hP hS rfl rfl dX3_asked_57
          · refine lv_bipush (v := (-2 : Int32)) hx hb dX3_asked_33 (by decide) ?_
            have hF : f_X3_asked X x1 x2 x3 = (-2 : Int32) := by rw [f_X3_asked, if_neg c_8, if_neg c_14, if_neg c_21, if_neg c_25, if_neg c_30]
            rw [hF]
            exact kr_i B hP hS rfl rfl dX3_asked_35
  · refine lv_iconst (v := (-1 : Int32)) hx hb dX3_asked_11 (by decide) ?_
    have hF : f_X3_asked X x1 x2 x3 = (-1 : Int32) := by rw [f_X3_asked, if_pos c_8]
    rw [hF]
    exact kr_i B hP hS rfl rfl dX3_asked_12
def fL_X3_gatherings_29 (X : XS) (x1 : Int32) (x2 : Int32) : Nat → Int32 → Int32
  | 0, _ => 0
  | k + 1, x3 => (if (300 : Int32) < x3 then (-9 : Int32) else (if (f_X2_partsBehindGatherings (X_now X) x1 x3) < x2 then fL_X3_gatherings_29 X x1 x2 k (x3 + (1 : Int32)) else x3))
def f_X3_gatherings (X : XS) (x1 : Int32) (x2 : Int32) : Int32 := (if (f_X2_has (X_now X) x1) = 0 then (-1 : Int32) else (if x2 < 0 then (-2 : Int32) else (if x2 ≤ (300 : Int32) then fL_X3_gatherings_29 X x1 x2 302 (0 : Int32) else (-2 : Int32))))
theorem iw_X3_gatherings_3 : ∀ w ∈ wsX30, w ∈ wsX3_gatherings := fun _ h => List.mem_cons_of_mem _ (List.mem_append_left _ (List.mem_append_right _ h))
set_option maxHeartbeats 4000000 in
set_option maxRecDepth 100000 in
theorem L_X3_gatherings_29 {p : Program} (l : Launch) {e : Env} {s : State} {m : MethodId} {args : Array Value} {below : List Frame} {meth : Method} {c : Code} {A : Nat → Prop} (D : va_G) (cI cO : ClassId) (tF : Nat) (ad : Nat → Nat) (X : XS) (x1 : Int32) (x2 : Int32) (hn : (T_count (X_now X)).toInt ≤ 6) (B : Bx p s m args meth c cX3_gatherings 4 (some .int) wsX3_gatherings RX3 D cI cO tF A) (hp : vp_in x1 6) : ∀ (k : Nat) (x3 : Int32), (0 ≤ x3.toInt) → ((300 + 1 - x3.toInt).toNat < k) → ∀ (H : Heap) (locs : List Loc), va_P D vwCl (wX ad cI cO X) H → va_D A (wX ad cI cO X) → va_S A s.heap H locs → ∀ ls : Array Slot, lv_has ls 4 [(0, .ref (ad 0)), (1, .int x1), (2, .int x2), (3, .int x3)] → W p l e ({ frames := 3, cells := 0, slots := 0, locals := 66 }) s m args below meth c H locs 0 0 (MQ below (Qp D (some (.int (fL_X3_gatherings_29 X x1 x2 k x3))) (wX ad cI cO X) A) args s 0 0 A) (F0 m 29 ls []) := by
  obtain ⟨hx, hb, hret, hml, hts, hown, hlocks, hE, hA⟩ := id B
  have hK := hE.1
  intro k
  induction k with
  | zero =>
    intro x3 h0 hk
    exact absurd hk (Nat.not_lt_zero _)
  | succ k ih =>
    intro x3 h0 hk H locs hP hD hS ls hl
    refine lv_iload_n hx hb dX3_gatherings_29 rfl (lv_at hl 3 rfl) ?_
    refine lv_sipush (v := (300 : Int32)) hx hb dX3_gatherings_30 (by decide) ?_
    refine lv_icmp_gt (tgt := 57) hx hb dX3_gatherings_33 (by decide) (fun c_33 => ?_) (fun c_33 => ?_)
    · refine lv_bipush (v := (-9 : Int32)) hx hb dX3_gatherings_57 (by decide) ?_
      have hF : fL_X3_gatherings_29 X x1 x2 (k + 1) x3 = (-9 : Int32) := by rw [fL_X3_gatherings_29, if_pos c_33]
      rw [hF]
      exact kr_i B hP hS rfl rfl dX3_gatherings_59
    · refine lv_aload_n hx hb dX3_gatherings_36 rfl (lv_at hl 0 rfl) ?_
      refine va_get (D := D) (ci := 3) (v := .ref (ad 2)) (C := RX3) (T := TX3) (N := 7) hx hb hts iw_X3_gatherings_3 hown hK hP 0 rfl rfl 1 (by decide) (hts (.fieldLink RX3 20 "TownLisp" "now" "LTownLisp$Town;") (by decide +kernel)) (fun _ h9 => h9) rfl dX3_gatherings_37 ?_
      refine lv_iload_n hx hb dX3_gatherings_40 rfl (lv_at hl 1 rfl) ?_
      refine lv_iload_n hx hb dX3_gatherings_41 rfl (lv_at hl 3 rfl) ?_
      refine kc_V (As := [.int x1, .int x3]) (rest := []) B (c_X2_partsBehindGatherings l D cI cO tF (ad 2) (ad 3) (ad 4) (ad 5) (X_now X) x1 x3 (hn) (hp)) (cwV 2 hts gX3_gatherings_X2_partsBehindGatherings rfl rfl rfl (by decide +kernel) ⟨Nat.le_of_ble_eq_true rfl, Nat.le_of_ble_eq_true rfl⟩) hP hD hS [2, 3, 4, 5] wX_subN (by decide) (w' := wX ad cI cO X) (wX_sameN) rfl 2 2 rfl rfl rfl rfl hl.1 rfl (Nat.le_of_ble_eq_true rfl) dX3_gatherings_42 ⟨Nat.zero_le _, Nat.zero_le _⟩ (fun H locs hP hD hS => ?_)
      have hD : va_D A (wX ad cI cO X) := hD
      refine lv_iload_n hx hb dX3_gatherings_45 rfl (lv_at hl 2 rfl) ?_
      refine lv_icmp_lt (tgt := 51) hx hb dX3_gatherings_46 (by decide) (fun c_46 => ?_) (fun c_46 => ?_)
      · refine lv_iinc (v := (x3 + (1 : Int32))) (lv' := [(3, .int (x3 + (1 : Int32))), (0, .ref (ad 0)), (1, .int x1), (2, .int x2)]) hx hb dX3_gatherings_51 hl (k := 3) rfl rfl (by decide) rfl (fun ls hl => ?_)
        refine lv_goto (tgt := 29) hx hb dX3_gatherings_54 (by decide) ?_
        have hF : fL_X3_gatherings_29 X x1 x2 (k + 1) x3 = fL_X3_gatherings_29 X x1 x2 k (x3 + (1 : Int32)) := by rw [fL_X3_gatherings_29, if_neg c_33, if_pos c_46]
        rw [hF]
        exact ih (x3 + (1 : Int32)) (lq_pre (n := 300) (by decide) h0 c_33) (lq_mu (n := 300) (by decide) h0 c_33 hk) _ _ hP hD hS ls (lv_sub hl [1, 2, 3, 0] rfl)
      · refine lv_iload_n hx hb dX3_gatherings_49 rfl (lv_at hl 3 rfl) ?_
        have hF : fL_X3_gatherings_29 X x1 x2 (k + 1) x3 = x3 := by rw [fL_X3_gatherings_29, if_neg c_33, if_neg c_46]
        rw [hF]
        exact kr_i B hP hS rfl rfl dX3_gatherings_50
set_option maxHeartbeats 4000000 in
set_option maxRecDepth 100000 in
theorem c_X3_gatherings (l : Launch) (D : va_G) (cI cO : ClassId) (tF : Nat) (ad : Nat → Nat) (X : XS) (x1 : Int32) (x2 : Int32) (hn : (T_count (X_now X)).toInt ≤ 6) : Ct l yX3_gatherings wsX3_gatherings ({ frames := 3, cells := 0, slots := 0, locals := 66 }) D cI cO tF [.ref (ad 0), .int x1, .int x2] (wX ad cI cO X) (some (.int (f_X3_gatherings X x1 x2))) (wX ad cI cO X) := by
  refine Ct.of (cc := cX3_gatherings) (maxL := 4) (ret := (some .int)) (own := RX3) (by decide) rfl rfl (Nat.le_of_ble_eq_true rfl) ?_
  intro p e s m args below meth c A ls B hP hD hS hl
  obtain ⟨hx, hb, hret, hml, hts, hown, hlocks, hE, hA⟩ := id B
  have hK := hE.1
  have hl : lv_has ls 4 [(0, .ref (ad 0)), (1, .int x1), (2, .int x2)] := hl
  refine lv_aload_n hx hb dX3_gatherings_0 rfl (lv_at hl 0 rfl) ?_
  refine va_get (D := D) (ci := 3) (v := .ref (ad 2)) (C := RX3) (T := TX3) (N := 7) hx hb hts iw_X3_gatherings_3 hown hK hP 0 rfl rfl 1 (by decide) (hts (.fieldLink RX3 20 "TownLisp" "now" "LTownLisp$Town;") (by decide +kernel)) (fun _ h9 => h9) rfl dX3_gatherings_1 ?_
  refine lv_iload_n hx hb dX3_gatherings_4 rfl (lv_at hl 1 rfl) ?_
  refine kc_V (As := [.int x1]) (rest := []) B (c_X2_has l D cI cO tF (ad 2) (ad 3) (ad 4) (ad 5) (X_now X) x1 ) (cwV 1 hts gX3_gatherings_X2_has rfl rfl rfl (by decide +kernel) ⟨Nat.le_of_ble_eq_true rfl, Nat.le_of_ble_eq_true rfl⟩) hP hD hS [2, 3, 4, 5] wX_subN (by decide) (w' := wX ad cI cO X) (wX_sameN) rfl 2 2 rfl rfl rfl rfl hl.1 rfl (Nat.le_of_ble_eq_true rfl) dX3_gatherings_5 ⟨Nat.zero_le _, Nat.zero_le _⟩ (fun H locs hP hD hS => ?_)
  have hD : va_D A (wX ad cI cO X) := hD
  refine lv_if_ne (tgt := 13) hx hb dX3_gatherings_8 (by decide) (fun c_8 => ?_) (fun c_8 => ?_)
  · refine lv_iload_n hx hb dX3_gatherings_13 rfl (lv_at hl 2 rfl) ?_
    refine lv_if_lt (tgt := 24) hx hb dX3_gatherings_14 (by decide) (fun c_14 => ?_) (fun c_14 => ?_)
    · refine lv_bipush (v := (-2 : Int32)) hx hb dX3_gatherings_24 (by decide) ?_
      have hF : f_X3_gatherings X x1 x2 = (-2 : Int32) := by rw [f_X3_gatherings, if_neg c_8, if_pos c_14]
      rw [hF]
      exact kr_i B hP hS rfl rfl dX3_gatherings_26
    · refine lv_iload_n hx hb dX3_gatherings_17 rfl (lv_at hl 2 rfl) ?_
      refine lv_sipush (v := (300 : Int32)) hx hb dX3_gatherings_18 (by decide) ?_
      refine lv_icmp_le (tgt := 27) hx hb dX3_gatherings_21 (by decide) (fun c_21 => ?_) (fun c_21 => ?_)
      · refine lv_iconst (v := (0 : Int32)) hx hb dX3_gatherings_27 (by decide) ?_
        refine lv_istore_n (lv' := [(3, .int (0 : Int32)), (0, .ref (ad 0)), (1, .int x1), (2, .int x2)]) hx hb dX3_gatherings_28 rfl hl (by decide) rfl (fun ls hl => ?_)
        have hF : f_X3_gatherings X x1 x2 = fL_X3_gatherings_29 X x1 x2 302 (0 : Int32) := by rw [f_X3_gatherings, if_neg c_8, if_neg c_14, if_pos c_21]
        rw [hF]
        exact L_X3_gatherings_29 l D cI cO tF ad X x1 x2 hn B (has_in hn c_8) 302 (0 : Int32) (by decide) (by decide) _ _ hP hD hS ls (lv_sub hl [1, 2, 3, 0] rfl)
      · refine lv_bipush (v := (-2 : Int32)) hx hb dX3_gatherings_24 (by decide) ?_
        have hF : f_X3_gatherings X x1 x2 = (-2 : Int32) := by rw [f_X3_gatherings, if_neg c_8, if_neg c_14, if_neg c_21]
        rw [hF]
        exact kr_i B hP hS rfl rfl dX3_gatherings_26
  · refine lv_iconst (v := (-1 : Int32)) hx hb dX3_gatherings_11 (by decide) ?_
    have hF : f_X3_gatherings X x1 x2 = (-1 : Int32) := by rw [f_X3_gatherings, if_pos c_8]
    rw [hF]
    exact kr_i B hP hS rfl rfl dX3_gatherings_12
def fL_X3_level_29 (X : XS) (x1 : Int32) : Nat → Int32 → Int32 → Int32
  | 0, _, _ => 0
  | k + 1, x2, x3 => (if (300 : Int32) < x3 then (if x1 = 0 then x2 else ((T_tin (X_now X)) - (f_X2_lackingUpTo (X_now X) x2))) else (if (T_tin (X_now X)) < (f_X2_lackingUpTo (X_now X) x3) then (if x1 = 0 then x2 else ((T_tin (X_now X)) - (f_X2_lackingUpTo (X_now X) x2))) else fL_X3_level_29 X x1 k x3 (x3 + (1 : Int32))))
def f_X3_level (X : XS) (x1 : Int32) : Int32 := (if x1 < 0 then (-2 : Int32) else (if x1 ≤ (1 : Int32) then (if (T_inside (X_now X)) = 0 then (-3 : Int32) else fL_X3_level_29 X x1 302 (0 : Int32) (1 : Int32)) else (-2 : Int32)))
theorem iw_X3_level_2 : ∀ w ∈ wsX20, w ∈ wsX3_level := fun _ h => List.mem_cons_of_mem _ (List.mem_append_right _ h)
theorem iw_X3_level_3 : ∀ w ∈ wsX30, w ∈ wsX3_level := fun _ h => List.mem_cons_of_mem _ (List.mem_append_left _ (List.mem_append_right _ h))
set_option maxHeartbeats 4000000 in
set_option maxRecDepth 100000 in
theorem L_X3_level_29 {p : Program} (l : Launch) {e : Env} {s : State} {m : MethodId} {args : Array Value} {below : List Frame} {meth : Method} {c : Code} {A : Nat → Prop} (D : va_G) (cI cO : ClassId) (tF : Nat) (ad : Nat → Nat) (X : XS) (x1 : Int32) (hn : (T_count (X_now X)).toInt ≤ 6) (B : Bx p s m args meth c cX3_level 4 (some .int) wsX3_level RX3 D cI cO tF A) : ∀ (k : Nat) (x2 : Int32) (x3 : Int32), (0 ≤ x3.toInt) → ((300 + 1 - x3.toInt).toNat < k) → ∀ (H : Heap) (locs : List Loc), va_P D vwCl (wX ad cI cO X) H → va_D A (wX ad cI cO X) → va_S A s.heap H locs → ∀ ls : Array Slot, lv_has ls 4 [(0, .ref (ad 0)), (1, .int x1), (2, .int x2), (3, .int x3)] → W p l e ({ frames := 3, cells := 0, slots := 0, locals := 65 }) s m args below meth c H locs 0 0 (MQ below (Qp D (some (.int (fL_X3_level_29 X x1 k x2 x3))) (wX ad cI cO X) A) args s 0 0 A) (F0 m 29 ls []) := by
  obtain ⟨hx, hb, hret, hml, hts, hown, hlocks, hE, hA⟩ := id B
  have hK := hE.1
  intro k
  induction k with
  | zero =>
    intro x2 x3 h0 hk
    exact absurd hk (Nat.not_lt_zero _)
  | succ k ih =>
    intro x2 x3 h0 hk H locs hP hD hS ls hl
    refine lv_iload_n hx hb dX3_level_29 rfl (lv_at hl 3 rfl) ?_
    refine lv_sipush (v := (300 : Int32)) hx hb dX3_level_30 (by decide) ?_
    refine lv_icmp_gt (tgt := 62) hx hb dX3_level_33 (by decide) (fun c_33 => ?_) (fun c_33 => ?_)
    · refine lv_iload_n hx hb dX3_level_62 rfl (lv_at hl 1 rfl) ?_
      refine lv_if_ne (tgt := 70) hx hb dX3_level_63 (by decide) (fun c_63 => ?_) (fun c_63 => ?_)
      · refine lv_aload_n hx hb dX3_level_70 rfl (lv_at hl 0 rfl) ?_
        refine va_get (D := D) (ci := 3) (v := .ref (ad 2)) (C := RX3) (T := TX3) (N := 7) hx hb hts iw_X3_level_3 hown hK hP 0 rfl rfl 1 (by decide) (hts (.fieldLink RX3 20 "TownLisp" "now" "LTownLisp$Town;") (by decide +kernel)) (fun _ h9 => h9) rfl dX3_level_71 ?_
        refine va_get (D := D) (ci := 2) (v := .int (T_tin (X_now X))) (C := RX2) (T := TX2) (N := 6) hx hb hts iw_X3_level_2 hown hK hP 2 rfl rfl 5 (by decide) (hts (.fieldLink RX3 103 "TownLisp$Town" "tin" "I") (by decide +kernel)) (fun _ h9 => h9) rfl dX3_level_74 ?_
        refine lv_aload_n hx hb dX3_level_77 rfl (lv_at hl 0 rfl) ?_
        refine va_get (D := D) (ci := 3) (v := .ref (ad 2)) (C := RX3) (T := TX3) (N := 7) hx hb hts iw_X3_level_3 hown hK hP 0 rfl rfl 1 (by decide) (hts (.fieldLink RX3 20 "TownLisp" "now" "LTownLisp$Town;") (by decide +kernel)) (fun _ h9 => h9) rfl dX3_level_78 ?_
        refine lv_iload_n hx hb dX3_level_81 rfl (lv_at hl 2 rfl) ?_
        refine kc_V (As := [.int x2]) (rest := [.int (T_tin (X_now X))]) B (c_X2_lackingUpTo l D cI cO tF (ad 2) (ad 3) (ad 4) (ad 5) (X_now X) x2 (hn)) (cwV 1 hts gX3_level_X2_lackingUpTo rfl rfl rfl (by decide +kernel) ⟨Nat.le_of_ble_eq_true rfl, Nat.le_of_ble_eq_true rfl⟩) hP hD hS [2, 3, 4, 5] wX_subN (by decide) (w' := wX ad cI cO X) (wX_sameN) rfl 2 2 rfl rfl rfl rfl hl.1 rfl (Nat.le_of_ble_eq_true rfl) dX3_level_82 ⟨Nat.zero_le _, Nat.zero_le _⟩ (fun H locs hP hD hS => ?_)
        have hD : va_D A (wX ad cI cO X) := hD
        refine lv_isub hx hb dX3_level_85 ?_
        have hF : fL_X3_level_29 X x1 (k + 1) x2 x3 = ((T_tin (X_now X)) - (f_X2_lackingUpTo (X_now X) x2)) := by rw [fL_X3_level_29, if_pos c_33, if_neg c_63]
        rw [hF]
        exact kr_i B hP hS rfl rfl dX3_level_86
      · refine lv_iload_n hx hb dX3_level_66 rfl (lv_at hl 2 rfl) ?_
        refine lv_goto (tgt := 86) hx hb dX3_level_67 (by decide) ?_
        have hF : fL_X3_level_29 X x1 (k + 1) x2 x3 = x2 := by rw [fL_X3_level_29, if_pos c_33, if_pos c_63]
        rw [hF]
        exact kr_i B hP hS rfl rfl dX3_level_86
    · refine lv_aload_n hx hb dX3_level_36 rfl (lv_at hl 0 rfl) ?_
      refine va_get (D := D) (ci := 3) (v := .ref (ad 2)) (C := RX3) (T := TX3) (N := 7) hx hb hts iw_X3_level_3 hown hK hP 0 rfl rfl 1 (by decide) (hts (.fieldLink RX3 20 "TownLisp" "now" "LTownLisp$Town;") (by decide +kernel)) (fun _ h9 => h9) rfl dX3_level_37 ?_
      refine lv_iload_n hx hb dX3_level_40 rfl (lv_at hl 3 rfl) ?_
      refine kc_V (As := [.int x3]) (rest := []) B (c_X2_lackingUpTo l D cI cO tF (ad 2) (ad 3) (ad 4) (ad 5) (X_now X) x3 (hn)) (cwV 1 hts gX3_level_X2_lackingUpTo rfl rfl rfl (by decide +kernel) ⟨Nat.le_of_ble_eq_true rfl, Nat.le_of_ble_eq_true rfl⟩) hP hD hS [2, 3, 4, 5] wX_subN (by decide) (w' := wX ad cI cO X) (wX_sameN) rfl 2 2 rfl rfl rfl rfl hl.1 rfl (Nat.le_of_ble_eq_true rfl) dX3_level_41 ⟨Nat.zero_le _, Nat.zero_le _⟩ (fun H locs hP hD hS => ?_)
      have hD : va_D A (wX ad cI cO X) := hD
      refine lv_aload_n hx hb dX3_level_44 rfl (lv_at hl 0 rfl) ?_
      refine va_get (D := D) (ci := 3) (v := .ref (ad 2)) (C := RX3) (T := TX3) (N := 7) hx hb hts iw_X3_level_3 hown hK hP 0 rfl rfl 1 (by decide) (hts (.fieldLink RX3 20 "TownLisp" "now" "LTownLisp$Town;") (by decide +kernel)) (fun _ h9 => h9) rfl dX3_level_45 ?_
      refine va_get (D := D) (ci := 2) (v := .int (T_tin (X_now X))) (C := RX2) (T := TX2) (N := 6) hx hb hts iw_X3_level_2 hown hK hP 2 rfl rfl 5 (by decide) (hts (.fieldLink RX3 103 "TownLisp$Town" "tin" "I") (by decide +kernel)) (fun _ h9 => h9) rfl dX3_level_48 ?_
      refine lv_icmp_gt (tgt := 62) hx hb dX3_level_51 (by decide) (fun c_51 => ?_) (fun c_51 => ?_)
      · refine lv_iload_n hx hb dX3_level_62 rfl (lv_at hl 1 rfl) ?_
        refine lv_if_ne (tgt := 70) hx hb dX3_level_63 (by decide) (fun c_63 => ?_) (fun c_63 => ?_)
        · refine lv_aload_n hx hb dX3_level_70 rfl (lv_at hl 0 rfl) ?_
          refine va_get (D := D) (ci := 3) (v := .ref (ad 2)) (C := RX3) (T := TX3) (N := 7) hx hb hts iw_X3_level_3 hown hK hP 0 rfl rfl 1 (by decide) (hts (.fieldLink RX3 20 "TownLisp" "now" "LTownLisp$Town;") (by decide +kernel)) (fun _ h9 => h9) rfl dX3_level_71 ?_
          refine va_get (D := D) (ci := 2) (v := .int (T_tin (X_now X))) (C := RX2) (T := TX2) (N := 6) hx hb hts iw_X3_level_2 hown hK hP 2 rfl rfl 5 (by decide) (hts (.fieldLink RX3 103 "TownLisp$Town" "tin" "I") (by decide +kernel)) (fun _ h9 => h9) rfl dX3_level_74 ?_
          refine lv_aload_n hx hb dX3_level_77 rfl (lv_at hl 0 rfl) ?_
          refine va_get (D := D) (ci := 3) (v := .ref (ad 2)) (C := RX3) (T := TX3) (N := 7) hx hb hts iw_X3_level_3 hown hK hP 0 rfl rfl 1 (by decide) (hts (.fieldLink RX3 20 "TownLisp" "now" "LTownLisp$Town;") (by decide +kernel)) (fun _ h9 => h9) rfl dX3_level_78 ?_
          refine lv_iload_n hx hb dX3_level_81 rfl (lv_at hl 2 rfl) ?_
          refine kc_V (As := [.int x2]) (rest := [.int (T_tin (X_now X))]) B (c_X2_lackingUpTo l D cI cO tF (ad 2) (ad 3) (ad 4) (ad 5) (X_now X) x2 (hn)) (cwV 1 hts gX3_level_X2_lackingUpTo rfl rfl rfl (by decide +kernel) ⟨Nat.le_of_ble_eq_true rfl, Nat.le_of_ble_eq_true rfl⟩) hP hD hS [2, 3, 4, 5] wX_subN (by decide) (w' := wX ad cI cO X) (wX_sameN) rfl 2 2 rfl rfl rfl rfl hl.1 rfl (Nat.le_of_ble_eq_true rfl) dX3_level_82 ⟨Nat.zero_le _, Nat.zero_le _⟩ (fun H locs hP hD hS => ?_)
          have hD : va_D A (wX ad cI cO X) := hD
          refine lv_isub hx hb dX3_level_85 ?_
          have hF : fL_X3_level_29 X x1 (k + 1) x2 x3 = ((T_tin (X_now X)) - (f_X2_lackingUpTo (X_now X) x2)) := by rw [fL_X3_level_29, if_neg c_33, if_pos c_51, if_neg c_63]
          rw [hF]
          exact kr_i B hP hS rfl rfl dX3_level_86
        · refine lv_iload_n hx hb dX3_level_66 rfl (lv_at hl 2 rfl) ?_
          refine lv_goto (tgt := 86) hx hb dX3_level_67 (by decide) ?_
          have hF : fL_X3_level_29 X x1 (k + 1) x2 x3 = x2 := by rw [fL_X3_level_29, if_neg c_33, if_pos c_51, if_pos c_63]
          rw [hF]
          exact kr_i B hP hS rfl rfl dX3_level_86
      · refine lv_iload_n hx hb dX3_level_54 rfl (lv_at hl 3 rfl) ?_
        refine lv_istore_n (lv' := [(2, .int x3), (0, .ref (ad 0)), (1, .int x1), (3, .int x3)]) hx hb dX3_level_55 rfl hl (by decide) rfl (fun ls hl => ?_)
        refine lv_iinc (v := (x3 + (1 : Int32))) (lv' := [(3, .int (x3 + (1 : Int32))), (2, .int x3), (0, .ref (ad 0)), (1, .int x1)]) hx hb dX3_level_56 hl (k := 3) rfl rfl (by decide) rfl (fun ls hl => ?_)
        refine lv_goto (tgt := 29) hx hb dX3_level_59 (by decide) ?_
        have hF : fL_X3_level_29 X x1 (k + 1) x2 x3 = fL_X3_level_29 X x1 k x3 (x3 + (1 : Int32)) := by rw [fL_X3_level_29, if_neg c_33, if_neg c_51]
        rw [hF]
        exact ih x3 (x3 + (1 : Int32)) (lq_pre (n := 300) (by decide) h0 c_33) (lq_mu (n := 300) (by decide) h0 c_33 hk) _ _ hP hD hS ls (lv_sub hl [2, 3, 1, 0] rfl)
set_option maxHeartbeats 4000000 in
set_option maxRecDepth 100000 in
theorem c_X3_level (l : Launch) (D : va_G) (cI cO : ClassId) (tF : Nat) (ad : Nat → Nat) (X : XS) (x1 : Int32) (hn : (T_count (X_now X)).toInt ≤ 6) : Ct l yX3_level wsX3_level ({ frames := 3, cells := 0, slots := 0, locals := 65 }) D cI cO tF [.ref (ad 0), .int x1] (wX ad cI cO X) (some (.int (f_X3_level X x1))) (wX ad cI cO X) := by
  refine Ct.of (cc := cX3_level) (maxL := 4) (ret := (some .int)) (own := RX3) (by decide) rfl rfl (Nat.le_of_ble_eq_true rfl) ?_
  intro p e s m args below meth c A ls B hP hD hS hl
  obtain ⟨hx, hb, hret, hml, hts, hown, hlocks, hE, hA⟩ := id B
  have hK := hE.1
  have hl : lv_has ls 4 [(0, .ref (ad 0)), (1, .int x1)] := hl
  refine lv_iload_n hx hb dX3_level_0 rfl (lv_at hl 1 rfl) ?_
  refine lv_if_lt (tgt := 9) hx hb dX3_level_1 (by decide) (fun c_1 => ?_) (fun c_1 => ?_)
  · refine lv_bipush (v := (-2 : Int32)) hx hb dX3_level_9 (by decide) ?_
    have hF : f_X3_level X x1 = (-2 : Int32) := by rw [f_X3_level, if_pos c_1]
    rw [hF]
    exact kr_i B hP hS rfl rfl dX3_level_11
  · refine lv_iload_n hx hb dX3_level_4 rfl (lv_at hl 1 rfl) ?_
    refine lv_iconst (v := (1 : Int32)) hx hb dX3_level_5 (by decide) ?_
    refine lv_icmp_le (tgt := 12) hx hb dX3_level_6 (by decide) (fun c_6 => ?_) (fun c_6 => ?_)
    · refine lv_aload_n hx hb dX3_level_12 rfl (lv_at hl 0 rfl) ?_
      refine va_get (D := D) (ci := 3) (v := .ref (ad 2)) (C := RX3) (T := TX3) (N := 7) hx hb hts iw_X3_level_3 hown hK hP 0 rfl rfl 1 (by decide) (hts (.fieldLink RX3 20 "TownLisp" "now" "LTownLisp$Town;") (by decide +kernel)) (fun _ h9 => h9) rfl dX3_level_13 ?_
      refine va_get (D := D) (ci := 2) (v := .int (T_inside (X_now X))) (C := RX2) (T := TX2) (N := 6) hx hb hts iw_X3_level_2 hown hK hP 2 rfl rfl 4 (by decide) (hts (.fieldLink RX3 93 "TownLisp$Town" "inside" "I") (by decide +kernel)) (fun _ h9 => h9) rfl dX3_level_16 ?_
      refine lv_if_ne (tgt := 25) hx hb dX3_level_19 (by decide) (fun c_19 => ?_) (fun c_19 => ?_)
      · refine lv_iconst (v := (0 : Int32)) hx hb dX3_level_25 (by decide) ?_
        refine lv_istore_n (lv' := [(2, .int (0 : Int32)), (0, .ref (ad 0)), (1, .int x1)]) hx hb dX3_level_26 rfl hl (by decide) rfl (fun ls hl => ?_)
        refine lv_iconst (v := (1 : Int32)) hx hb dX3_level_27 (by decide) ?_
        refine lv_istore_n (lv' := [(3, .int (1 : Int32)), (2, .int (0 : Int32)), (0, .ref (ad 0)), (1, .int x1)]) hx hb dX3_level_28 rfl hl (by decide) rfl (fun ls hl => ?_)
        have hF : f_X3_level X x1 = fL_X3_level_29 X x1 302 (0 : Int32) (1 : Int32) := by rw [f_X3_level, if_neg c_1, if_pos c_6, if_neg c_19]
        rw [hF]
        exact L_X3_level_29 l D cI cO tF ad X x1 hn B  302 (0 : Int32) (1 : Int32) (by decide) (by decide) _ _ hP hD hS ls (lv_sub hl [2, 3, 1, 0] rfl)
      · refine lv_bipush (v := (-3 : Int32)) hx hb dX3_level_22 (by decide) ?_
        have hF : f_X3_level X x1 = (-3 : Int32) := by rw [f_X3_level, if_neg c_1, if_pos c_6, if_pos c_19]
        rw [hF]
        exact kr_i B hP hS rfl rfl dX3_level_24
    · refine lv_bipush (v := (-2 : Int32)) hx hb dX3_level_9 (by decide) ?_
      have hF : f_X3_level X x1 = (-2 : Int32) := by rw [f_X3_level, if_neg c_1, if_neg c_6]
      rw [hF]
      exact kr_i B hP hS rfl rfl dX3_level_11
def fL_X3_were_50 (X : XS) (x1 : Int32) (x2 : Int32) (x3 : Int32) : Nat → Int32 → Int32 → Int32 → Int32 → Int32
  | 0, _, _, _, _ => 0
  | k + 1, x4, x5, x6, x7 => (if (f_X2_allSets (X_now X)) ≤ x7 then (if x3 = 0 then x4 else (if x3 = (1 : Int32) then x5 else x6)) else (if (f_X3_isMember x7 x1) = 0 then fL_X3_were_50 X x1 x2 x3 k x4 x5 x6 (x7 + (1 : Int32)) else (if (f_X2_partsBehindDay (X_now X) x7 x1) = x2 then (if x4 = 0 then (if x4 = 0 then fL_X3_were_50 X x1 x2 x3 k (x4 + (1 : Int32)) x7 x7 (x7 + (1 : Int32)) else fL_X3_were_50 X x1 x2 x3 k (x4 + (1 : Int32)) x7 (x6 &&& x7) (x7 + (1 : Int32))) else (if x4 = 0 then fL_X3_were_50 X x1 x2 x3 k (x4 + (1 : Int32)) x5 x7 (x7 + (1 : Int32)) else fL_X3_were_50 X x1 x2 x3 k (x4 + (1 : Int32)) x5 (x6 &&& x7) (x7 + (1 : Int32)))) else fL_X3_were_50 X x1 x2 x3 k x4 x5 x6 (x7 + (1 : Int32)))))
def f_X3_were (X : XS) (x1 : Int32) (x2 : Int32) (x3 : Int32) : Int32 := (if (f_X2_has (X_now X) x1) = 0 then (-1 : Int32) else (if x2 < 0 then (-2 : Int32) else (if (300 : Int32) < x2 then (-2 : Int32) else (if x3 < 0 then (-2 : Int32) else (if x3 ≤ (2 : Int32) then fL_X3_were_50 X x1 x2 x3 ((f_X2_allSets (X_now X)).toInt.toNat + 1) (0 : Int32) (-9 : Int32) (-9 : Int32) (0 : Int32) else (-2 : Int32))))))
theorem iw_X3_were_3 : ∀ w ∈ wsX30, w ∈ wsX3_were := fun _ h => List.mem_cons_of_mem _ (List.mem_append_left _ (List.mem_append_right _ h))
set_option maxHeartbeats 4000000 in
set_option maxRecDepth 100000 in
theorem L_X3_were_50 {p : Program} (l : Launch) {e : Env} {s : State} {m : MethodId} {args : Array Value} {below : List Frame} {meth : Method} {c : Code} {A : Nat → Prop} (D : va_G) (cI cO : ClassId) (tF : Nat) (ad : Nat → Nat) (X : XS) (x1 : Int32) (x2 : Int32) (x3 : Int32) (hn : (T_count (X_now X)).toInt ≤ 6) (B : Bx p s m args meth c cX3_were 8 (some .int) wsX3_were RX3 D cI cO tF A) (hp : vp_in x1 6) : ∀ (k : Nat) (x4 : Int32) (x5 : Int32) (x6 : Int32) (x7 : Int32), (0 ≤ x7.toInt) → (((f_X2_allSets (X_now X)).toInt - x7.toInt).toNat < k) → ∀ (H : Heap) (locs : List Loc), va_P D vwCl (wX ad cI cO X) H → va_D A (wX ad cI cO X) → va_S A s.heap H locs → ∀ ls : Array Slot, lv_has ls 8 [(0, .ref (ad 0)), (1, .int x1), (2, .int x2), (3, .int x3), (4, .int x4), (5, .int x5), (6, .int x6), (7, .int x7)] → W p l e ({ frames := 3, cells := 0, slots := 0, locals := 69 }) s m args below meth c H locs 0 0 (MQ below (Qp D (some (.int (fL_X3_were_50 X x1 x2 x3 k x4 x5 x6 x7))) (wX ad cI cO X) A) args s 0 0 A) (F0 m 50 ls []) := by
  obtain ⟨hx, hb, hret, hml, hts, hown, hlocks, hE, hA⟩ := id B
  have hK := hE.1
  intro k
  induction k with
  | zero =>
    intro x4 x5 x6 x7 h0 hk
    exact absurd hk (Nat.not_lt_zero _)
  | succ k ih =>
    intro x4 x5 x6 x7 h0 hk H locs hP hD hS ls hl
    refine lv_iload hx hb dX3_were_50 (lv_at hl 7 rfl) ?_
    refine lv_aload_n hx hb dX3_were_52 rfl (lv_at hl 0 rfl) ?_
    refine va_get (D := D) (ci := 3) (v := .ref (ad 2)) (C := RX3) (T := TX3) (N := 7) hx hb hts iw_X3_were_3 hown hK hP 0 rfl rfl 1 (by decide) (hts (.fieldLink RX3 20 "TownLisp" "now" "LTownLisp$Town;") (by decide +kernel)) (fun _ h9 => h9) rfl dX3_were_53 ?_
    refine kc_V (As := []) (rest := [.int x7]) B (c_X2_allSets l D cI cO tF (ad 2) (ad 3) (ad 4) (ad 5) (X_now X) ) (cwV 0 hts gX3_were_X2_allSets rfl rfl rfl (by decide +kernel) ⟨Nat.le_of_ble_eq_true rfl, Nat.le_of_ble_eq_true rfl⟩) hP hD hS [2, 3, 4, 5] wX_subN (by decide) (w' := wX ad cI cO X) (wX_sameN) rfl 2 2 rfl rfl rfl rfl hl.1 rfl (Nat.le_of_ble_eq_true rfl) dX3_were_56 ⟨Nat.zero_le _, Nat.zero_le _⟩ (fun H locs hP hD hS => ?_)
    have hD : va_D A (wX ad cI cO X) := hD
    refine lv_icmp_ge (tgt := 125) hx hb dX3_were_59 (by decide) (fun c_59 => ?_) (fun c_59 => ?_)
    · refine lv_iload_n hx hb dX3_were_125 rfl (lv_at hl 3 rfl) ?_
      refine lv_if_ne (tgt := 132) hx hb dX3_were_126 (by decide) (fun c_126 => ?_) (fun c_126 => ?_)
      · refine lv_iload_n hx hb dX3_were_132 rfl (lv_at hl 3 rfl) ?_
        refine lv_iconst (v := (1 : Int32)) hx hb dX3_were_133 (by decide) ?_
        refine lv_icmp_ne (tgt := 142) hx hb dX3_were_134 (by decide) (fun c_134 => ?_) (fun c_134 => ?_)
        · refine lv_iload hx hb dX3_were_142 (lv_at hl 6 rfl) ?_
          have hF : fL_X3_were_50 X x1 x2 x3 (k + 1) x4 x5 x6 x7 = x6 := by rw [fL_X3_were_50, if_pos c_59, if_neg c_126, if_neg c_134]
          rw [hF]
          exact kr_i B hP hS rfl rfl dX3_were_144
        · refine lv_iload hx hb dX3_were_137 (lv_at hl 5 rfl) ?_
          refine lv_goto (tgt := 144) hx hb dX3_were_139 (by decide) ?_
          have hF : fL_X3_were_50 X x1 x2 x3 (k + 1) x4 x5 x6 x7 = x5 := by rw [fL_X3_were_50, if_pos c_59, if_neg c_126, if_pos c_134]
          rw [hF]
          exact kr_i B hP hS rfl rfl dX3_were_144
      · refine lv_iload hx hb dX3_were_129 (lv_at hl 4 rfl) ?_
        have hF : fL_X3_were_50 X x1 x2 x3 (k + 1) x4 x5 x6 x7 = x4 := by rw [fL_X3_were_50, if_pos c_59, if_pos c_126]
        rw [hF]
        exact kr_i B hP hS rfl rfl dX3_were_131
    · refine lv_iload hx hb dX3_were_62 (lv_at hl 7 rfl) ?_
      refine lv_iload_n hx hb dX3_were_64 rfl (lv_at hl 1 rfl) ?_
      refine kc_S (As := [.int x7, .int x1]) (rest := []) B (c_X3_isMember l D cI cO tF x7 x1 ) (va_cwS 2 hts gX3_were_X3_isMember rfl rfl rfl (by decide +kernel) ⟨Nat.le_of_ble_eq_true rfl, Nat.le_of_ble_eq_true rfl⟩) hP hD hS [] rfl (by decide) (w' := wX ad cI cO X) rfl rfl rfl hl.1 rfl (Nat.le_of_ble_eq_true rfl) dX3_were_65 ⟨Nat.zero_le _, Nat.zero_le _⟩ (fun H locs hP hD hS => ?_)
      have hD : va_D A (wX ad cI cO X) := hD
      refine lv_if_eq (tgt := 119) hx hb dX3_were_68 (by decide) (fun c_68 => ?_) (fun c_68 => ?_)
      · refine lv_iinc (v := (x7 + (1 : Int32))) (lv' := [(7, .int (x7 + (1 : Int32))), (0, .ref (ad 0)), (1, .int x1), (2, .int x2), (3, .int x3), (4, .int x4), (5, .int x5), (6, .int x6)]) hx hb dX3_were_119 hl (k := 7) rfl rfl (by decide) rfl (fun ls hl => ?_)
        refine lv_goto (tgt := 50) hx hb dX3_were_122 (by decide) ?_
        have hF : fL_X3_were_50 X x1 x2 x3 (k + 1) x4 x5 x6 x7 = fL_X3_were_50 X x1 x2 x3 k x4 x5 x6 (x7 + (1 : Int32)) := by rw [fL_X3_were_50, if_neg c_59, if_pos c_68]
        rw [hF]
        exact ih x4 x5 x6 (x7 + (1 : Int32)) (lp_pre h0 c_59) (lp_mu h0 c_59 hk) _ _ hP hD hS ls (lv_sub hl [1, 2, 3, 4, 5, 6, 7, 0] rfl)
      · refine lv_aload_n hx hb dX3_were_71 rfl (lv_at hl 0 rfl) ?_
        refine va_get (D := D) (ci := 3) (v := .ref (ad 2)) (C := RX3) (T := TX3) (N := 7) hx hb hts iw_X3_were_3 hown hK hP 0 rfl rfl 1 (by decide) (hts (.fieldLink RX3 20 "TownLisp" "now" "LTownLisp$Town;") (by decide +kernel)) (fun _ h9 => h9) rfl dX3_were_72 ?_
        refine lv_iload hx hb dX3_were_75 (lv_at hl 7 rfl) ?_
        refine lv_iload_n hx hb dX3_were_77 rfl (lv_at hl 1 rfl) ?_
        refine kc_V (As := [.int x7, .int x1]) (rest := []) B (c_X2_partsBehindDay l D cI cO tF (ad 2) (ad 3) (ad 4) (ad 5) (X_now X) x7 x1 (hn) (hp)) (cwV 2 hts gX3_were_X2_partsBehindDay rfl rfl rfl (by decide +kernel) ⟨Nat.le_of_ble_eq_true rfl, Nat.le_of_ble_eq_true rfl⟩) hP hD hS [2, 3, 4, 5] wX_subN (by decide) (w' := wX ad cI cO X) (wX_sameN) rfl 2 2 rfl rfl rfl rfl hl.1 rfl (Nat.le_of_ble_eq_true rfl) dX3_were_78 ⟨Nat.zero_le _, Nat.zero_le _⟩ (fun H locs hP hD hS => ?_)
        have hD : va_D A (wX ad cI cO X) := hD
        refine lv_iload_n hx hb dX3_were_81 rfl (lv_at hl 2 rfl) ?_
        refine lv_icmp_ne (tgt := 119) hx hb dX3_were_82 (by decide) (fun c_82 => ?_) (fun c_82 => ?_)
        · refine lv_iinc (v := (x7 + (1 : Int32))) (lv' := [(7, .int (x7 + (1 : Int32))), (0, .ref (ad 0)), (1, .int x1), (2, .int x2), (3, .int x3), (4, .int x4), (5, .int x5), (6, .int x6)]) hx hb dX3_were_119 hl (k := 7) rfl rfl (by decide) rfl (fun ls hl => ?_)
          refine lv_goto (tgt := 50) hx hb dX3_were_122 (by decide) ?_
          have hF : fL_X3_were_50 X x1 x2 x3 (k + 1) x4 x5 x6 x7 = fL_X3_were_50 X x1 x2 x3 k x4 x5 x6 (x7 + (1 : Int32)) := by rw [fL_X3_were_50, if_neg c_59, if_neg c_68, if_neg c_82]
          rw [hF]
          exact ih x4 x5 x6 (x7 + (1 : Int32)) (lp_pre h0 c_59) (lp_mu h0 c_59 hk) _ _ hP hD hS ls (lv_sub hl [1, 2, 3, 4, 5, 6, 7, 0] rfl)
        · refine lv_iload hx hb dX3_were_85 (lv_at hl 4 rfl) ?_
          refine lv_if_ne (tgt := 95) hx hb dX3_were_87 (by decide) (fun c_87 => ?_) (fun c_87 => ?_)
          · refine lv_iload hx hb dX3_were_95 (lv_at hl 5 rfl) ?_
            refine lv_istore (lv' := [(5, .int x5), (0, .ref (ad 0)), (1, .int x1), (2, .int x2), (3, .int x3), (4, .int x4), (6, .int x6), (7, .int x7)]) hx hb dX3_were_97 hl (by decide) rfl (fun ls hl => ?_)
            refine lv_iload hx hb dX3_were_99 (lv_at hl 5 rfl) ?_
            refine lv_if_ne (tgt := 109) hx hb dX3_were_101 (by decide) (fun c_101 => ?_) (fun c_101 => ?_)
            · refine lv_iload hx hb dX3_were_109 (lv_at hl 6 rfl) ?_
              refine lv_iload hx hb dX3_were_111 (lv_at hl 7 rfl) ?_
              refine lv_iand hx hb dX3_were_113 ?_
              refine lv_istore (lv' := [(6, .int (x6 &&& x7)), (5, .int x5), (0, .ref (ad 0)), (1, .int x1), (2, .int x2), (3, .int x3), (4, .int x4), (7, .int x7)]) hx hb dX3_were_114 hl (by decide) rfl (fun ls hl => ?_)
              refine lv_iinc (v := (x4 + (1 : Int32))) (lv' := [(4, .int (x4 + (1 : Int32))), (6, .int (x6 &&& x7)), (5, .int x5), (0, .ref (ad 0)), (1, .int x1), (2, .int x2), (3, .int x3), (7, .int x7)]) hx hb dX3_were_116 hl (k := 6) rfl rfl (by decide) rfl (fun ls hl => ?_)
              refine lv_iinc (v := (x7 + (1 : Int32))) (lv' := [(7, .int (x7 + (1 : Int32))), (4, .int (x4 + (1 : Int32))), (6, .int (x6 &&& x7)), (5, .int x5), (0, .ref (ad 0)), (1, .int x1), (2, .int x2), (3, .int x3)]) hx hb dX3_were_119 hl (k := 7) rfl rfl (by decide) rfl (fun ls hl => ?_)
              refine lv_goto (tgt := 50) hx hb dX3_were_122 (by decide) ?_
              have hF : fL_X3_were_50 X x1 x2 x3 (k + 1) x4 x5 x6 x7 = fL_X3_were_50 X x1 x2 x3 k (x4 + (1 : Int32)) x5 (x6 &&& x7) (x7 + (1 : Int32)) := by rw [fL_X3_were_50, if_neg c_59, if_neg c_68, if_pos c_82, if_neg c_87, if_neg c_101]
              rw [hF]
              exact ih (x4 + (1 : Int32)) x5 (x6 &&& x7) (x7 + (1 : Int32)) (lp_pre h0 c_59) (lp_mu h0 c_59 hk) _ _ hP hD hS ls (lv_sub hl [4, 5, 6, 7, 1, 3, 2, 0] rfl)
            · refine lv_iload hx hb dX3_were_104 (lv_at hl 7 rfl) ?_
              refine lv_goto (tgt := 114) hx hb dX3_were_106 (by decide) ?_
              refine lv_istore (lv' := [(6, .int x7), (5, .int x5), (0, .ref (ad 0)), (1, .int x1), (2, .int x2), (3, .int x3), (4, .int x4), (7, .int x7)]) hx hb dX3_were_114 hl (by decide) rfl (fun ls hl => ?_)
              refine lv_iinc (v := (x4 + (1 : Int32))) (lv' := [(4, .int (x4 + (1 : Int32))), (6, .int x7), (5, .int x5), (0, .ref (ad 0)), (1, .int x1), (2, .int x2), (3, .int x3), (7, .int x7)]) hx hb dX3_were_116 hl (k := 6) rfl rfl (by decide) rfl (fun ls hl => ?_)
              refine lv_iinc (v := (x7 + (1 : Int32))) (lv' := [(7, .int (x7 + (1 : Int32))), (4, .int (x4 + (1 : Int32))), (6, .int x7), (5, .int x5), (0, .ref (ad 0)), (1, .int x1), (2, .int x2), (3, .int x3)]) hx hb dX3_were_119 hl (k := 7) rfl rfl (by decide) rfl (fun ls hl => ?_)
              refine lv_goto (tgt := 50) hx hb dX3_were_122 (by decide) ?_
              have hF : fL_X3_were_50 X x1 x2 x3 (k + 1) x4 x5 x6 x7 = fL_X3_were_50 X x1 x2 x3 k (x4 + (1 : Int32)) x5 x7 (x7 + (1 : Int32)) := by rw [fL_X3_were_50, if_neg c_59, if_neg c_68, if_pos c_82, if_neg c_87, if_pos c_101]
              rw [hF]
              exact ih (x4 + (1 : Int32)) x5 x7 (x7 + (1 : Int32)) (lp_pre h0 c_59) (lp_mu h0 c_59 hk) _ _ hP hD hS ls (lv_sub hl [4, 5, 6, 7, 1, 3, 2, 0] rfl)
          · refine lv_iload hx hb dX3_were_90 (lv_at hl 7 rfl) ?_
            refine lv_goto (tgt := 97) hx hb dX3_were_92 (by decide) ?_
            refine lv_istore (lv' := [(5, .int x7), (0, .ref (ad 0)), (1, .int x1), (2, .int x2), (3, .int x3), (4, .int x4), (6, .int x6), (7, .int x7)]) hx hb dX3_were_97 hl (by decide) rfl (fun ls hl => ?_)
            refine lv_iload hx hb dX3_were_99 (lv_at hl 5 rfl) ?_
            refine lv_if_ne (tgt := 109) hx hb dX3_were_101 (by decide) (fun c_101 => ?_) (fun c_101 => ?_)
            · refine lv_iload hx hb dX3_were_109 (lv_at hl 6 rfl) ?_
              refine lv_iload hx hb dX3_were_111 (lv_at hl 7 rfl) ?_
              refine lv_iand hx hb dX3_were_113 ?_
              refine lv_istore (lv' := [(6, .int (x6 &&& x7)), (5, .int x7), (0, .ref (ad 0)), (1, .int x1), (2, .int x2), (3, .int x3), (4, .int x4), (7, .int x7)]) hx hb dX3_were_114 hl (by decide) rfl (fun ls hl => ?_)
              refine lv_iinc (v := (x4 + (1 : Int32))) (lv' := [(4, .int (x4 + (1 : Int32))), (6, .int (x6 &&& x7)), (5, .int x7), (0, .ref (ad 0)), (1, .int x1), (2, .int x2), (3, .int x3), (7, .int x7)]) hx hb dX3_were_116 hl (k := 6) rfl rfl (by decide) rfl (fun ls hl => ?_)
              refine lv_iinc (v := (x7 + (1 : Int32))) (lv' := [(7, .int (x7 + (1 : Int32))), (4, .int (x4 + (1 : Int32))), (6, .int (x6 &&& x7)), (5, .int x7), (0, .ref (ad 0)), (1, .int x1), (2, .int x2), (3, .int x3)]) hx hb dX3_were_119 hl (k := 7) rfl rfl (by decide) rfl (fun ls hl => ?_)
              refine lv_goto (tgt := 50) hx hb dX3_were_122 (by decide) ?_
              have hF : fL_X3_were_50 X x1 x2 x3 (k + 1) x4 x5 x6 x7 = fL_X3_were_50 X x1 x2 x3 k (x4 + (1 : Int32)) x7 (x6 &&& x7) (x7 + (1 : Int32)) := by rw [fL_X3_were_50, if_neg c_59, if_neg c_68, if_pos c_82, if_pos c_87, if_neg c_101]
              rw [hF]
              exact ih (x4 + (1 : Int32)) x7 (x6 &&& x7) (x7 + (1 : Int32)) (lp_pre h0 c_59) (lp_mu h0 c_59 hk) _ _ hP hD hS ls (lv_sub hl [4, 5, 6, 7, 1, 3, 2, 0] rfl)
            · refine lv_iload hx hb dX3_were_104 (lv_at hl 7 rfl) ?_
              refine lv_goto (tgt := 114) hx hb dX3_were_106 (by decide) ?_
              refine lv_istore (lv' := [(6, .int x7), (5, .int x7), (0, .ref (ad 0)), (1, .int x1), (2, .int x2), (3, .int x3), (4, .int x4), (7, .int x7)]) hx hb dX3_were_114 hl (by decide) rfl (fun ls hl => ?_)
              refine lv_iinc (v := (x4 + (1 : Int32))) (lv' := [(4, .int (x4 + (1 : Int32))), (6, .int x7), (5, .int x7), (0, .ref (ad 0)), (1, .int x1), (2, .int x2), (3, .int x3), (7, .int x7)]) hx hb dX3_were_116 hl (k := 6) rfl rfl (by decide) rfl (fun ls hl => ?_)
              refine lv_iinc (v := (x7 + (1 : Int32))) (lv' := [(7, .int (x7 + (1 : Int32))), (4, .int (x4 + (1 : Int32))), (6, .int x7), (5, .int x7), (0, .ref (ad 0)), (1, .int x1), (2, .int x2), (3, .int x3)]) hx hb dX3_were_119 hl (k := 7) rfl rfl (by decide) rfl (fun ls hl => ?_)
              refine lv_goto (tgt := 50) hx hb dX3_were_122 (by decide) ?_
              have hF : fL_X3_were_50 X x1 x2 x3 (k + 1) x4 x5 x6 x7 = fL_X3_were_50 X x1 x2 x3 k (x4 + (1 : Int32)) x7 x7 (x7 + (1 : Int32)) := by rw [fL_X3_were_50, if_neg c_59, if_neg c_68, if_pos c_82, if_pos c_87, if_pos c_101]
              rw [hF]
              exact ih (x4 + (1 : Int32)) x7 x7 (x7 + (1 : Int32)) (lp_pre h0 c_59) (lp_mu h0 c_59 hk) _ _ hP hD hS ls (lv_sub hl [4, 5, 6, 7, 1, 3, 2, 0] rfl)
set_option maxHeartbeats 4000000 in
set_option maxRecDepth 100000 in
theorem c_X3_were (l : Launch) (D : va_G) (cI cO : ClassId) (tF : Nat) (ad : Nat → Nat) (X : XS) (x1 : Int32) (x2 : Int32) (x3 : Int32) (hn : (T_count (X_now X)).toInt ≤ 6) : Ct l yX3_were wsX3_were ({ frames := 3, cells := 0, slots := 0, locals := 69 }) D cI cO tF [.ref (ad 0), .int x1, .int x2, .int x3] (wX ad cI cO X) (some (.int (f_X3_were X x1 x2 x3))) (wX ad cI cO X) := by
  refine Ct.of (cc := cX3_were) (maxL := 8) (ret := (some .int)) (own := RX3) (by decide) rfl rfl (Nat.le_of_ble_eq_true rfl) ?_
  intro p e s m args below meth c A ls B hP hD hS hl
  obtain ⟨hx, hb, hret, hml, hts, hown, hlocks, hE, hA⟩ := id B
  have hK := hE.1
  have hl : lv_has ls 8 [(0, .ref (ad 0)), (1, .int x1), (2, .int x2), (3, .int x3)] := hl
  refine lv_aload_n hx hb dX3_were_0 rfl (lv_at hl 0 rfl) ?_
  refine va_get (D := D) (ci := 3) (v := .ref (ad 2)) (C := RX3) (T := TX3) (N := 7) hx hb hts iw_X3_were_3 hown hK hP 0 rfl rfl 1 (by decide) (hts (.fieldLink RX3 20 "TownLisp" "now" "LTownLisp$Town;") (by decide +kernel)) (fun _ h9 => h9) rfl dX3_were_1 ?_
  refine lv_iload_n hx hb dX3_were_4 rfl (lv_at hl 1 rfl) ?_
  refine kc_V (As := [.int x1]) (rest := []) B (c_X2_has l D cI cO tF (ad 2) (ad 3) (ad 4) (ad 5) (X_now X) x1 ) (cwV 1 hts gX3_were_X2_has rfl rfl rfl (by decide +kernel) ⟨Nat.le_of_ble_eq_true rfl, Nat.le_of_ble_eq_true rfl⟩) hP hD hS [2, 3, 4, 5] wX_subN (by decide) (w' := wX ad cI cO X) (wX_sameN) rfl 2 2 rfl rfl rfl rfl hl.1 rfl (Nat.le_of_ble_eq_true rfl) dX3_were_5 ⟨Nat.zero_le _, Nat.zero_le _⟩ (fun H locs hP hD hS => ?_)
  have hD : va_D A (wX ad cI cO X) := hD
  refine lv_if_ne (tgt := 13) hx hb dX3_were_8 (by decide) (fun c_8 => ?_) (fun c_8 => ?_)
  · refine lv_iload_n hx hb dX3_were_13 rfl (lv_at hl 2 rfl) ?_
    refine lv_if_lt (tgt := 33) hx hb dX3_were_14 (by decide) (fun c_14 => ?_) (fun c_14 => ?_)
    · refine lv_bipush (v := (-2 : Int32)) hx hb dX3_were_33 (by decide) ?_
      have hF : f_X3_were X x1 x2 x3 = (-2 : Int32) := by rw [f_X3_were, if_neg c_8, if_pos c_14]
      rw [hF]
      exact kr_i B hP hS rfl rfl dX3_were_35
    · refine lv_iload_n hx hb dX3_were_17 rfl (lv_at hl 2 rfl) ?_
      refine lv_sipush (v := (300 : Int32)) hx hb dX3_were_18 (by decide) ?_
      refine lv_icmp_gt (tgt := 33) hx hb dX3_were_21 (by decide) (fun c_21 => ?_) (fun c_21 => ?_)
      · refine lv_bipush (v := (-2 : Int32)) hx hb dX3_were_33 (by decide) ?_
        have hF : f_X3_were X x1 x2 x3 = (-2 : Int32) := by rw [f_X3_were, if_neg c_8, if_neg c_14, if_pos c_21]
        rw [hF]
        exact kr_i B hP hS rfl rfl dX3_were_35
      · refine lv_iload_n hx hb dX3_were_24 rfl (lv_at hl 3 rfl) ?_
        refine lv_if_lt (tgt := 33) hx hb dX3_were_25 (by decide) (fun c_25 => ?_) (fun c_25 => ?_)
        · refine lv_bipush (v := (-2 : Int32)) hx hb dX3_were_33 (by decide) ?_
          have hF : f_X3_were X x1 x2 x3 = (-2 : Int32) := by rw [f_X3_were, if_neg c_8, if_neg c_14, if_neg c_21, if_pos c_25]
          rw [hF]
          exact kr_i B hP hS rfl rfl dX3_were_35
        · refine lv_iload_n hx hb dX3_were_28 rfl (lv_at hl 3 rfl) ?_
          refine lv_iconst (v := (2 : Int32)) hx hb dX3_were_29 (by decide) ?_
          refine lv_icmp_le (tgt := 36) hx hb dX3_were_30 (by decide) (fun c_30 => ?_) (fun c_30 => ?_)
          · refine lv_iconst (v := (0 : Int32)) hx hb dX3_were_36 (by decide) ?_
            refine lv_istore (lv' := [(4, .int (0 : Int32)), (0, .ref (ad 0)), (1, .int x1), (2, .int x2), (3, .int x3)]) hx hb dX3_were_37 hl (by decide) rfl (fun ls hl => ?_)
            refine lv_bipush (v := (-9 : Int32)) hx hb dX3_were_39 (by decide) ?_
            refine lv_istore (lv' := [(5, .int (-9 : Int32)), (4, .int (0 : Int32)), (0, .ref (ad 0)), (1, .int x1), (2, .int x2), (3, .int x3)]) hx hb dX3_were_41 hl (by decide) rfl (fun ls hl => ?_)
            refine lv_bipush (v := (-9 : Int32)) hx hb dX3_were_43 (by decide) ?_
            refine lv_istore (lv' := [(6, .int (-9 : Int32)), (5, .int (-9 : Int32)), (4, .int (0 : Int32)), (0, .ref (ad 0)), (1, .int x1), (2, .int x2), (3, .int x3)]) hx hb dX3_were_45 hl (by decide) rfl (fun ls hl => ?_)
            refine lv_iconst (v := (0 : Int32)) hx hb dX3_were_47 (by decide) ?_
            refine lv_istore (lv' := [(7, .int (0 : Int32)), (6, .int (-9 : Int32)), (5, .int (-9 : Int32)), (4, .int (0 : Int32)), (0, .ref (ad 0)), (1, .int x1), (2, .int x2), (3, .int x3)]) hx hb dX3_were_48 hl (by decide) rfl (fun ls hl => ?_)
            have hF : f_X3_were X x1 x2 x3 = fL_X3_were_50 X x1 x2 x3 ((f_X2_allSets (X_now X)).toInt.toNat + 1) (0 : Int32) (-9 : Int32) (-9 : Int32) (0 : Int32) := by rw [f_X3_were, if_neg c_8, if_neg c_14, if_neg c_21, if_neg c_25, if_pos c_30]
            rw [hF]
            exact L_X3_were_50 l D cI cO tF ad X x1 x2 x3 hn B (has_in hn c_8) ((f_X2_allSets (X_now X)).toInt.toNat + 1) (0 : Int32) (-9 : Int32) (-9 : Int32) (0 : Int32) (Int.le_refl _) (by rw [show (0 : Int32).toInt = 0 from rfl]; omega) _ _ hP hD hS ls (lv_sub hl [4, 5, 6, 7, 3, 2, 1, 0] rfl)
          · refine lv_bipush (v := (-2 : Int32)) hx hb dX3_were_33 (by decide) ?_
            have hF : f_X3_were X x1 x2 x3 = (-2 : Int32) := by rw [f_X3_were, if_neg c_8, if_neg c_14, if_neg c_21, if_neg c_25, if_neg c_30]
            rw [hF]
            exact kr_i B hP hS rfl rfl dX3_were_35
  · refine lv_iconst (v := (-1 : Int32)) hx hb dX3_were_11 (by decide) ?_
    have hF : f_X3_were X x1 x2 x3 = (-1 : Int32) := by rw [f_X3_were, if_pos c_8]
    rw [hF]
    exact kr_i B hP hS rfl rfl dX3_were_12
def f_X3_rounds (X : XS) (x1 : Int32) (x2 : Int32) : Int32 := (if x1 < (1 : Int32) then (-2 : Int32) else (if (9 : Int32) < x1 then (-2 : Int32) else (if x2 < 0 then (-2 : Int32) else (if x2 ≤ (1 : Int32) then (if (T_count (X_now X)) = 0 then (-3 : Int32) else (if x2 = 0 then (if ((T_tin (X_now X)) - (T_tin (X_now X)) / (x1 + (1 : Int32)) * (x1 + (1 : Int32))) = 0 then (0 : Int32) else (1 : Int32)) else (if ((T_tin (X_now X)) - (T_tin (X_now X)) / (x1 + (1 : Int32)) * (x1 + (1 : Int32))) = 0 then (-9 : Int32) else ((T_tin (X_now X)) - (T_tin (X_now X)) / (x1 + (1 : Int32)) * (x1 + (1 : Int32)))))) else (-2 : Int32)))))
theorem iw_X3_rounds_2 : ∀ w ∈ wsX20, w ∈ wsX3_rounds := fun _ h => List.mem_cons_of_mem _ (List.mem_append_right _ h)
theorem iw_X3_rounds_3 : ∀ w ∈ wsX30, w ∈ wsX3_rounds := fun _ h => List.mem_cons_of_mem _ (List.mem_append_left _ (List.mem_append_right _ h))
set_option maxHeartbeats 4000000 in
set_option maxRecDepth 100000 in
theorem c_X3_rounds (l : Launch) (D : va_G) (cI cO : ClassId) (tF : Nat) (ad : Nat → Nat) (X : XS) (x1 : Int32) (x2 : Int32) : Ct l yX3_rounds wsX3_rounds ({ frames := 0, cells := 0, slots := 0, locals := 0 }) D cI cO tF [.ref (ad 0), .int x1, .int x2] (wX ad cI cO X) (some (.int (f_X3_rounds X x1 x2))) (wX ad cI cO X) := by
  refine Ct.of (cc := cX3_rounds) (maxL := 4) (ret := (some .int)) (own := RX3) (by decide) rfl rfl (Nat.le_of_ble_eq_true rfl) ?_
  intro p e s m args below meth c A ls B hP hD hS hl
  obtain ⟨hx, hb, hret, hml, hts, hown, hlocks, hE, hA⟩ := id B
  have hK := hE.1
  have hl : lv_has ls 4 [(0, .ref (ad 0)), (1, .int x1), (2, .int x2)] := hl
  refine lv_iload_n hx hb dX3_rounds_0 rfl (lv_at hl 1 rfl) ?_
  refine lv_iconst (v := (1 : Int32)) hx hb dX3_rounds_1 (by decide) ?_
  refine lv_icmp_lt (tgt := 20) hx hb dX3_rounds_2 (by decide) (fun c_2 => ?_) (fun c_2 => ?_)
  · refine lv_bipush (v := (-2 : Int32)) hx hb dX3_rounds_20 (by decide) ?_
    have hF : f_X3_rounds X x1 x2 = (-2 : Int32) := by rw [f_X3_rounds, if_pos c_2]
    rw [hF]
    exact kr_i B hP hS rfl rfl dX3_rounds_22
  · refine lv_iload_n hx hb dX3_rounds_5 rfl (lv_at hl 1 rfl) ?_
    refine lv_bipush (v := (9 : Int32)) hx hb dX3_rounds_6 (by decide) ?_
    refine lv_icmp_gt (tgt := 20) hx hb dX3_rounds_8 (by decide) (fun c_8 => ?_) (fun c_8 => ?_)
    · refine lv_bipush (v := (-2 : Int32)) hx hb dX3_rounds_20 (by decide) ?_
      have hF : f_X3_rounds X x1 x2 = (-2 : Int32) := by rw [f_X3_rounds, if_neg c_2, if_pos c_8]
      rw [hF]
      exact kr_i B hP hS rfl rfl dX3_rounds_22
    · refine lv_iload_n hx hb dX3_rounds_11 rfl (lv_at hl 2 rfl) ?_
      refine lv_if_lt (tgt := 20) hx hb dX3_rounds_12 (by decide) (fun c_12 => ?_) (fun c_12 => ?_)
      · refine lv_bipush (v := (-2 : Int32)) hx hb dX3_rounds_20 (by decide) ?_
        have hF : f_X3_rounds X x1 x2 = (-2 : Int32) := by rw [f_X3_rounds, if_neg c_2, if_neg c_8, if_pos c_12]
        rw [hF]
        exact kr_i B hP hS rfl rfl dX3_rounds_22
      · refine lv_iload_n hx hb dX3_rounds_15 rfl (lv_at hl 2 rfl) ?_
        refine lv_iconst (v := (1 : Int32)) hx hb dX3_rounds_16 (by decide) ?_
        refine lv_icmp_le (tgt := 23) hx hb dX3_rounds_17 (by decide) (fun c_17 => ?_) (fun c_17 => ?_)
        · refine lv_aload_n hx hb dX3_rounds_23 rfl (lv_at hl 0 rfl) ?_
          refine va_get (D := D) (ci := 3) (v := .ref (ad 2)) (C := RX3) (T := TX3) (N := 7) hx hb hts iw_X3_rounds_3 hown hK hP 0 rfl rfl 1 (by decide) (hts (.fieldLink RX3 20 "TownLisp" "now" "LTownLisp$Town;") (by decide +kernel)) (fun _ h9 => h9) rfl dX3_rounds_24 ?_
          refine va_get (D := D) (ci := 2) (v := .int (T_count (X_now X))) (C := RX2) (T := TX2) (N := 6) hx hb hts iw_X3_rounds_2 hown hK hP 2 rfl rfl 3 (by decide) (hts (.fieldLink RX3 69 "TownLisp$Town" "count" "I") (by decide +kernel)) (fun _ h9 => h9) rfl dX3_rounds_27 ?_
          refine lv_if_ne (tgt := 36) hx hb dX3_rounds_30 (by decide) (fun c_30 => ?_) (fun c_30 => ?_)
          · refine lv_aload_n hx hb dX3_rounds_36 rfl (lv_at hl 0 rfl) ?_
            refine va_get (D := D) (ci := 3) (v := .ref (ad 2)) (C := RX3) (T := TX3) (N := 7) hx hb hts iw_X3_rounds_3 hown hK hP 0 rfl rfl 1 (by decide) (hts (.fieldLink RX3 20 "TownLisp" "now" "LTownLisp$Town;") (by decide +kernel)) (fun _ h9 => h9) rfl dX3_rounds_37 ?_
            refine va_get (D := D) (ci := 2) (v := .int (T_tin (X_now X))) (C := RX2) (T := TX2) (N := 6) hx hb hts iw_X3_rounds_2 hown hK hP 2 rfl rfl 5 (by decide) (hts (.fieldLink RX3 103 "TownLisp$Town" "tin" "I") (by decide +kernel)) (fun _ h9 => h9) rfl dX3_rounds_40 ?_
            refine lv_iload_n hx hb dX3_rounds_43 rfl (lv_at hl 1 rfl) ?_
            refine lv_iconst (v := (1 : Int32)) hx hb dX3_rounds_44 (by decide) ?_
            refine lv_iadd hx hb dX3_rounds_45 ?_
            refine lv_irem hx hb dX3_rounds_46 (rd_nz c_2 c_8) ?_
            refine lv_istore_n (lv' := [(3, .int ((T_tin (X_now X)) - (T_tin (X_now X)) / (x1 + (1 : Int32)) * (x1 + (1 : Int32)))), (0, .ref (ad 0)), (1, .int x1), (2, .int x2)]) hx hb dX3_rounds_47 rfl hl (by decide) rfl (fun ls hl => ?_)
            refine lv_iload_n hx hb dX3_rounds_48 rfl (lv_at hl 3 rfl) ?_
            refine lv_if_ne (tgt := 62) hx hb dX3_rounds_49 (by decide) (fun c_49 => ?_) (fun c_49 => ?_)
            · refine lv_iload_n hx hb dX3_rounds_62 rfl (lv_at hl 0 rfl) ?_
              refine lv_if_ne (tgt := 71) hx hb dX3_rounds_63 (by decide) (fun c_63 => ?_) (fun c_63 => ?_)
              · refine lv_iload_n hx hb dX3_rounds_71 rfl (lv_at hl 0 rfl) ?_
                have hF : f_X3_rounds X x1 x2 = ((T_tin (X_now X)) - (T_tin (X_now X)) / (x1 + (1 : Int32)) * (x1 + (1 : Int32))) := by rw [f_X3_rounds, if_neg c_2, if_neg c_8, if_neg c_12, if_pos c_17, if_neg c_30, if_neg c_49, if_neg c_63]
                rw [hF]
                exact kr_i B hP hS rfl rfl dX3_rounds_72
              · refine lv_bipush (v := (-9 : Int32)) hx hb dX3_rounds_66 (by decide) ?_
                refine lv_goto (tgt := 72) hx hb dX3_rounds_68 (by decide) ?_
                have hF : f_X3_rounds X x1 x2 = (-9 : Int32) := by rw [f_X3_rounds, if_neg c_2, if_neg c_8, if_neg c_12, if_pos c_17, if_neg c_30, if_neg c_49, if_pos c_63]
                rw [hF]
                exact kr_i B hP hS rfl rfl dX3_rounds_72
            · refine lv_iload_n hx hb dX3_rounds_52 rfl (lv_at hl 0 rfl) ?_
              refine lv_if_ne (tgt := 60) hx hb dX3_rounds_53 (by decide) (fun c_53 => ?_) (fun c_53 => ?_)
              · refine lv_iconst (v := (1 : Int32)) hx hb dX3_rounds_60 (by decide) ?_
                have hF : f_X3_rounds X x1 x2 = (1 : Int32) := by rw [f_X3_rounds, if_neg c_2, if_neg c_8, if_neg c_12, if_pos c_17, if_neg c_30, if_pos c_49, if_neg c_53]
                rw [hF]
                exact kr_i B hP hS rfl rfl dX3_rounds_61
              · refine lv_iconst (v := (0 : Int32)) hx hb dX3_rounds_56 (by decide) ?_
                refine lv_goto (tgt := 61) hx hb dX3_rounds_57 (by decide) ?_
                have hF : f_X3_rounds X x1 x2 = (0 : Int32) := by rw [f_X3_rounds, if_neg c_2, if_neg c_8, if_neg c_12, if_pos c_17, if_neg c_30, if_pos c_49, if_pos c_53]
                rw [hF]
                exact kr_i B hP hS rfl rfl dX3_rounds_61
          · refine lv_bipush (v := (-3 : Int32)) hx hb dX3_rounds_33 (by decide) ?_
            have hF : f_X3_rounds X x1 x2 = (-3 : Int32) := by rw [f_X3_rounds, if_neg c_2, if_neg c_8, if_neg c_12, if_pos c_17, if_pos c_30]
            rw [hF]
            exact kr_i B hP hS rfl rfl dX3_rounds_35
        · refine lv_bipush (v := (-2 : Int32)) hx hb dX3_rounds_20 (by decide) ?_
          have hF : f_X3_rounds X x1 x2 = (-2 : Int32) := by rw [f_X3_rounds, if_neg c_2, if_neg c_8, if_neg c_12, if_neg c_17]
          rw [hF]
          exact kr_i B hP hS rfl rfl dX3_rounds_22
def fL_X3_ordersDecidedBy_35 (X : XS) (x1 : Int32) (x2 : Int32) (x3 : Int32) : Nat → Int32 → Int32 → Int32
  | 0, _, _ => 0
  | k + 1, x4, x5 => (if (f_X2_allSets (X_now X)) ≤ x5 then x4 else (if (x5 &&& (x2 ^^^ (-1 : Int32))) = 0 then (if x3 < ((2 : Int32) * (f_X2_partsOf (X_now X) x5)) then fL_X3_ordersDecidedBy_35 X x1 x2 x3 k x4 (x5 + (1 : Int32)) else (if ((2 : Int32) * ((f_X2_partsOf (X_now X) x5) + ((T_parts (X_now X)) x1.toNatClampNeg))) ≤ x3 then fL_X3_ordersDecidedBy_35 X x1 x2 x3 k x4 (x5 + (1 : Int32)) else fL_X3_ordersDecidedBy_35 X x1 x2 x3 k (x4 + ((f_X3_ordersOf x5) * (f_X3_ordersOf (x2 &&& (x5 ^^^ (-1 : Int32)))))) (x5 + (1 : Int32)))) else fL_X3_ordersDecidedBy_35 X x1 x2 x3 k x4 (x5 + (1 : Int32))))
def f_X3_ordersDecidedBy (X : XS) (x1 : Int32) : Int32 := fL_X3_ordersDecidedBy_35 X x1 ((T_inside (X_now X)) &&& (((1 : Int32) <<< (x1 &&& 31)) ^^^ (-1 : Int32))) (f_X2_partsOf (X_now X) (T_inside (X_now X))) ((f_X2_allSets (X_now X)).toInt.toNat + 1) (0 : Int32) (0 : Int32)
theorem iw_X3_ordersDecidedBy_2 : ∀ w ∈ wsX20, w ∈ wsX3_ordersDecidedBy := fun _ h => List.mem_cons_of_mem _ (List.mem_append_right _ h)
theorem iw_X3_ordersDecidedBy_3 : ∀ w ∈ wsX30, w ∈ wsX3_ordersDecidedBy := fun _ h => List.mem_cons_of_mem _ (List.mem_append_left _ (List.mem_append_right _ h))
set_option maxHeartbeats 4000000 in
set_option maxRecDepth 100000 in
theorem L_X3_ordersDecidedBy_35 {p : Program} (l : Launch) {e : Env} {s : State} {m : MethodId} {args : Array Value} {below : List Frame} {meth : Method} {c : Code} {A : Nat → Prop} (D : va_G) (cI cO : ClassId) (tF : Nat) (ad : Nat → Nat) (X : XS) (x1 : Int32) (x2 : Int32) (x3 : Int32) (hn : (T_count (X_now X)).toInt ≤ 6) (hp : vp_in x1 6) (B : Bx p s m args meth c cX3_ordersDecidedBy 8 (some .int) wsX3_ordersDecidedBy RX3 D cI cO tF A) : ∀ (k : Nat) (x4 : Int32) (x5 : Int32), (0 ≤ x5.toInt) → (((f_X2_allSets (X_now X)).toInt - x5.toInt).toNat < k) → ∀ (H : Heap) (locs : List Loc), va_P D vwCl (wX ad cI cO X) H → va_D A (wX ad cI cO X) → va_S A s.heap H locs → ∀ ls : Array Slot, lv_has ls 8 [(0, .ref (ad 0)), (1, .int x1), (2, .int x2), (3, .int x3), (4, .int x4), (5, .int x5)] → W p l e ({ frames := 2, cells := 0, slots := 0, locals := 44 }) s m args below meth c H locs 0 0 (MQ below (Qp D (some (.int (fL_X3_ordersDecidedBy_35 X x1 x2 x3 k x4 x5))) (wX ad cI cO X) A) args s 0 0 A) (F0 m 35 ls []) := by
  obtain ⟨hx, hb, hret, hml, hts, hown, hlocks, hE, hA⟩ := id B
  have hK := hE.1
  intro k
  induction k with
  | zero =>
    intro x4 x5 h0 hk
    exact absurd hk (Nat.not_lt_zero _)
  | succ k ih =>
    intro x4 x5 h0 hk H locs hP hD hS ls hl
    refine lv_iload hx hb dX3_ordersDecidedBy_35 (lv_at hl 5 rfl) ?_
    refine lv_aload_n hx hb dX3_ordersDecidedBy_37 rfl (lv_at hl 0 rfl) ?_
    refine va_get (D := D) (ci := 3) (v := .ref (ad 2)) (C := RX3) (T := TX3) (N := 7) hx hb hts iw_X3_ordersDecidedBy_3 hown hK hP 0 rfl rfl 1 (by decide) (hts (.fieldLink RX3 20 "TownLisp" "now" "LTownLisp$Town;") (by decide +kernel)) (fun _ h9 => h9) rfl dX3_ordersDecidedBy_38 ?_
    refine kc_V (As := []) (rest := [.int x5]) B (c_X2_allSets l D cI cO tF (ad 2) (ad 3) (ad 4) (ad 5) (X_now X) ) (cwV 0 hts gX3_ordersDecidedBy_X2_allSets rfl rfl rfl (by decide +kernel) ⟨Nat.le_of_ble_eq_true rfl, Nat.le_of_ble_eq_true rfl⟩) hP hD hS [2, 3, 4, 5] wX_subN (by decide) (w' := wX ad cI cO X) (wX_sameN) rfl 2 2 rfl rfl rfl rfl hl.1 rfl (Nat.le_of_ble_eq_true rfl) dX3_ordersDecidedBy_41 ⟨Nat.zero_le _, Nat.zero_le _⟩ (fun H locs hP hD hS => ?_)
    have hD : va_D A (wX ad cI cO X) := hD
    refine lv_icmp_ge (tgt := 123) hx hb dX3_ordersDecidedBy_44 (by decide) (fun c_44 => ?_) (fun c_44 => ?_)
    · refine lv_iload hx hb dX3_ordersDecidedBy_123 (lv_at hl 4 rfl) ?_
      have hF : fL_X3_ordersDecidedBy_35 X x1 x2 x3 (k + 1) x4 x5 = x4 := by rw [fL_X3_ordersDecidedBy_35, if_pos c_44]
      rw [hF]
      exact kr_i B hP hS rfl rfl dX3_ordersDecidedBy_125
    · refine lv_aload_n hx hb dX3_ordersDecidedBy_47 rfl (lv_at hl 0 rfl) ?_
      refine va_get (D := D) (ci := 3) (v := .ref (ad 2)) (C := RX3) (T := TX3) (N := 7) hx hb hts iw_X3_ordersDecidedBy_3 hown hK hP 0 rfl rfl 1 (by decide) (hts (.fieldLink RX3 20 "TownLisp" "now" "LTownLisp$Town;") (by decide +kernel)) (fun _ h9 => h9) rfl dX3_ordersDecidedBy_48 ?_
      refine lv_iload hx hb dX3_ordersDecidedBy_51 (lv_at hl 5 rfl) ?_
      refine kc_V (As := [.int x5]) (rest := []) B (c_X2_partsOf l D cI cO tF (ad 2) (ad 3) (ad 4) (ad 5) (X_now X) x5 (hn)) (cwV 1 hts gX3_ordersDecidedBy_X2_partsOf rfl rfl rfl (by decide +kernel) ⟨Nat.le_of_ble_eq_true rfl, Nat.le_of_ble_eq_true rfl⟩) hP hD hS [2, 3, 4, 5] wX_subN (by decide) (w' := wX ad cI cO X) (wX_sameN) rfl 2 2 rfl rfl rfl rfl hl.1 rfl (Nat.le_of_ble_eq_true rfl) dX3_ordersDecidedBy_53 ⟨Nat.zero_le _, Nat.zero_le _⟩ (fun H locs hP hD hS => ?_)
      have hD : va_D A (wX ad cI cO X) := hD
      refine lv_istore (lv' := [(6, .int (f_X2_partsOf (X_now X) x5)), (0, .ref (ad 0)), (1, .int x1), (2, .int x2), (3, .int x3), (4, .int x4), (5, .int x5)]) hx hb dX3_ordersDecidedBy_56 hl (by decide) rfl (fun ls hl => ?_)
      refine lv_iload hx hb dX3_ordersDecidedBy_58 (lv_at hl 6 rfl) ?_
      refine lv_iload_n hx hb dX3_ordersDecidedBy_60 rfl (lv_at hl 3 rfl) ?_
      refine lv_iconst (v := (-1 : Int32)) hx hb dX3_ordersDecidedBy_61 (by decide) ?_
      refine lv_ixor hx hb dX3_ordersDecidedBy_62 ?_
      refine lv_iand hx hb dX3_ordersDecidedBy_63 ?_
      refine lv_if_ne (tgt := 117) hx hb dX3_ordersDecidedBy_64 (by decide) (fun c_64 => ?_) (fun c_64 => ?_)
      · refine lv_iinc (v := (x5 + (1 : Int32))) (lv' := [(5, .int (x5 + (1 : Int32))), (6, .int (f_X2_partsOf (X_now X) x5)), (0, .ref (ad 0)), (1, .int x1), (2, .int x2), (3, .int x3), (4, .int x4)]) hx hb dX3_ordersDecidedBy_117 hl (k := 6) rfl rfl (by decide) rfl (fun ls hl => ?_)
        refine lv_goto (tgt := 35) hx hb dX3_ordersDecidedBy_120 (by decide) ?_
        have hF : fL_X3_ordersDecidedBy_35 X x1 x2 x3 (k + 1) x4 x5 = fL_X3_ordersDecidedBy_35 X x1 x2 x3 k x4 (x5 + (1 : Int32)) := by rw [fL_X3_ordersDecidedBy_35, if_neg c_44, if_neg c_64]
        rw [hF]
        exact ih x4 (x5 + (1 : Int32)) (lp_pre h0 c_44) (lp_mu h0 c_44 hk) _ _ hP hD hS ls (lv_sub hl [2, 3, 4, 5, 6, 0] rfl)
      · refine lv_iconst (v := (2 : Int32)) hx hb dX3_ordersDecidedBy_67 (by decide) ?_
        refine lv_iload hx hb dX3_ordersDecidedBy_68 (lv_at hl 0 rfl) ?_
        refine lv_imul hx hb dX3_ordersDecidedBy_70 ?_
        refine lv_iload_n hx hb dX3_ordersDecidedBy_71 rfl (lv_at hl 4 rfl) ?_
        refine lv_icmp_gt (tgt := 117) hx hb dX3_ordersDecidedBy_72 (by decide) (fun c_72 => ?_) (fun c_72 => ?_)
        · refine lv_iinc (v := (x5 + (1 : Int32))) (lv' := [(5, .int (x5 + (1 : Int32))), (6, .int (f_X2_partsOf (X_now X) x5)), (0, .ref (ad 0)), (1, .int x1), (2, .int x2), (3, .int x3), (4, .int x4)]) hx hb dX3_ordersDecidedBy_117 hl (k := 6) rfl rfl (by decide) rfl (fun ls hl => ?_)
          refine lv_goto (tgt := 35) hx hb dX3_ordersDecidedBy_120 (by decide) ?_
          have hF : fL_X3_ordersDecidedBy_35 X x1 x2 x3 (k + 1) x4 x5 = fL_X3_ordersDecidedBy_35 X x1 x2 x3 k x4 (x5 + (1 : Int32)) := by rw [fL_X3_ordersDecidedBy_35, if_neg c_44, if_pos c_64, if_pos c_72]
          rw [hF]
          exact ih x4 (x5 + (1 : Int32)) (lp_pre h0 c_44) (lp_mu h0 c_44 hk) _ _ hP hD hS ls (lv_sub hl [2, 3, 4, 5, 6, 0] rfl)
        · refine lv_iconst (v := (2 : Int32)) hx hb dX3_ordersDecidedBy_75 (by decide) ?_
          refine lv_iload hx hb dX3_ordersDecidedBy_76 (lv_at hl 0 rfl) ?_
          refine lv_aload_n hx hb dX3_ordersDecidedBy_78 rfl (lv_at hl 1 rfl) ?_
          refine va_get (D := D) (ci := 3) (v := .ref (ad 2)) (C := RX3) (T := TX3) (N := 7) hx hb hts iw_X3_ordersDecidedBy_3 hown hK hP 0 rfl rfl 1 (by decide) (hts (.fieldLink RX3 20 "TownLisp" "now" "LTownLisp$Town;") (by decide +kernel)) (fun _ h9 => h9) rfl dX3_ordersDecidedBy_79 ?_
          refine va_get (D := D) (ci := 2) (v := .ref (ad 4)) (C := RX2) (T := TX2) (N := 6) hx hb hts iw_X3_ordersDecidedBy_2 hown hK hP 2 rfl rfl 1 (by decide) (hts (.fieldLink RX3 77 "TownLisp$Town" "parts" "[I") (by decide +kernel)) (fun _ h9 => h9) rfl dX3_ordersDecidedBy_82 ?_
          refine lv_iload_n hx hb dX3_ordersDecidedBy_85 rfl (lv_at hl 2 rfl) ?_
          refine va_iald hx hb hK hP 4 0 rfl rfl (hp) dX3_ordersDecidedBy_86 ?_
          refine lv_iadd hx hb dX3_ordersDecidedBy_87 ?_
          refine lv_imul hx hb dX3_ordersDecidedBy_88 ?_
          refine lv_iload_n hx hb dX3_ordersDecidedBy_89 rfl (lv_at hl 4 rfl) ?_
          refine lv_icmp_le (tgt := 117) hx hb dX3_ordersDecidedBy_90 (by decide) (fun c_90 => ?_) (fun c_90 => ?_)
          · refine lv_iinc (v := (x5 + (1 : Int32))) (lv' := [(5, .int (x5 + (1 : Int32))), (6, .int (f_X2_partsOf (X_now X) x5)), (0, .ref (ad 0)), (1, .int x1), (2, .int x2), (3, .int x3), (4, .int x4)]) hx hb dX3_ordersDecidedBy_117 hl (k := 6) rfl rfl (by decide) rfl (fun ls hl => ?_)
            refine lv_goto (tgt := 35) hx hb dX3_ordersDecidedBy_120 (by decide) ?_
            have hF : fL_X3_ordersDecidedBy_35 X x1 x2 x3 (k + 1) x4 x5 = fL_X3_ordersDecidedBy_35 X x1 x2 x3 k x4 (x5 + (1 : Int32)) := by rw [fL_X3_ordersDecidedBy_35, if_neg c_44, if_pos c_64, if_neg c_72, if_pos c_90]
            rw [hF]
            exact ih x4 (x5 + (1 : Int32)) (lp_pre h0 c_44) (lp_mu h0 c_44 hk) _ _ hP hD hS ls (lv_sub hl [2, 3, 4, 5, 6, 0] rfl)
          · refine lv_iload_n hx hb dX3_ordersDecidedBy_93 rfl (lv_at hl 3 rfl) ?_
            refine lv_iload hx hb dX3_ordersDecidedBy_94 (lv_at hl 6 rfl) ?_
            refine lv_iconst (v := (-1 : Int32)) hx hb dX3_ordersDecidedBy_96 (by decide) ?_
            refine lv_ixor hx hb dX3_ordersDecidedBy_97 ?_
            refine lv_iand hx hb dX3_ordersDecidedBy_98 ?_
            refine lv_istore (lv' := [(7, .int (x2 &&& (x5 ^^^ (-1 : Int32)))), (6, .int (f_X2_partsOf (X_now X) x5)), (0, .ref (ad 0)), (1, .int x1), (2, .int x2), (3, .int x3), (4, .int x4), (5, .int x5)]) hx hb dX3_ordersDecidedBy_99 hl (by decide) rfl (fun ls hl => ?_)
            refine lv_iload hx hb dX3_ordersDecidedBy_101 (lv_at hl 6 rfl) ?_
            refine lv_iload hx hb dX3_ordersDecidedBy_103 (lv_at hl 7 rfl) ?_
            refine kc_S (As := [.int x5]) (rest := [.int x4]) B (c_X3_ordersOf l D cI cO tF x5 ) (va_cwS 1 hts gX3_ordersDecidedBy_X3_ordersOf rfl rfl rfl (by decide +kernel) ⟨Nat.le_of_ble_eq_true rfl, Nat.le_of_ble_eq_true rfl⟩) hP hD hS [] rfl (by decide) (w' := wX ad cI cO X) rfl rfl rfl hl.1 rfl (Nat.le_of_ble_eq_true rfl) dX3_ordersDecidedBy_105 ⟨Nat.zero_le _, Nat.zero_le _⟩ (fun H locs hP hD hS => ?_)
            have hD : va_D A (wX ad cI cO X) := hD
            refine lv_iload hx hb dX3_ordersDecidedBy_108 (lv_at hl 0 rfl) ?_
            refine kc_S (As := [.int (x2 &&& (x5 ^^^ (-1 : Int32)))]) (rest := [.int (f_X3_ordersOf x5), .int x4]) B (c_X3_ordersOf l D cI cO tF (x2 &&& (x5 ^^^ (-1 : Int32))) ) (va_cwS 1 hts gX3_ordersDecidedBy_X3_ordersOf rfl rfl rfl (by decide +kernel) ⟨Nat.le_of_ble_eq_true rfl, Nat.le_of_ble_eq_true rfl⟩) hP hD hS [] rfl (by decide) (w' := wX ad cI cO X) rfl rfl rfl hl.1 rfl (Nat.le_of_ble_eq_true rfl) dX3_ordersDecidedBy_110 ⟨Nat.zero_le _, Nat.zero_le _⟩ (fun H locs hP hD hS => ?_)
            have hD : va_D A (wX ad cI cO X) := hD
            refine lv_imul hx hb dX3_ordersDecidedBy_113 ?_
            refine lv_iadd hx hb dX3_ordersDecidedBy_114 ?_
            refine lv_istore (lv' := [(4, .int (x4 + ((f_X3_ordersOf x5) * (f_X3_ordersOf (x2 &&& (x5 ^^^ (-1 : Int32))))))), (7, .int (x2 &&& (x5 ^^^ (-1 : Int32)))), (6, .int (f_X2_partsOf (X_now X) x5)), (0, .ref (ad 0)), (1, .int x1), (2, .int x2), (3, .int x3), (5, .int x5)]) hx hb dX3_ordersDecidedBy_115 hl (by decide) rfl (fun ls hl => ?_)
            refine lv_iinc (v := (x5 + (1 : Int32))) (lv' := [(5, .int (x5 + (1 : Int32))), (4, .int (x4 + ((f_X3_ordersOf x5) * (f_X3_ordersOf (x2 &&& (x5 ^^^ (-1 : Int32))))))), (7, .int (x2 &&& (x5 ^^^ (-1 : Int32)))), (6, .int (f_X2_partsOf (X_now X) x5)), (0, .ref (ad 0)), (1, .int x1), (2, .int x2), (3, .int x3)]) hx hb dX3_ordersDecidedBy_117 hl (k := 7) rfl rfl (by decide) rfl (fun ls hl => ?_)
            refine lv_goto (tgt := 35) hx hb dX3_ordersDecidedBy_120 (by decide) ?_
            have hF : fL_X3_ordersDecidedBy_35 X x1 x2 x3 (k + 1) x4 x5 = fL_X3_ordersDecidedBy_35 X x1 x2 x3 k (x4 + ((f_X3_ordersOf x5) * (f_X3_ordersOf (x2 &&& (x5 ^^^ (-1 : Int32)))))) (x5 + (1 : Int32)) := by rw [fL_X3_ordersDecidedBy_35, if_neg c_44, if_pos c_64, if_neg c_72, if_neg c_90]
            rw [hF]
            exact ih (x4 + ((f_X3_ordersOf x5) * (f_X3_ordersOf (x2 &&& (x5 ^^^ (-1 : Int32)))))) (x5 + (1 : Int32)) (lp_pre h0 c_44) (lp_mu h0 c_44 hk) _ _ hP hD hS ls (lv_sub hl [4, 5, 6, 7, 1, 0] rfl)
set_option maxHeartbeats 4000000 in
set_option maxRecDepth 100000 in
theorem c_X3_ordersDecidedBy (l : Launch) (D : va_G) (cI cO : ClassId) (tF : Nat) (ad : Nat → Nat) (X : XS) (x1 : Int32) (hn : (T_count (X_now X)).toInt ≤ 6) (hp : vp_in x1 6) : Ct l yX3_ordersDecidedBy wsX3_ordersDecidedBy ({ frames := 2, cells := 0, slots := 0, locals := 44 }) D cI cO tF [.ref (ad 0), .int x1] (wX ad cI cO X) (some (.int (f_X3_ordersDecidedBy X x1))) (wX ad cI cO X) := by
  refine Ct.of (cc := cX3_ordersDecidedBy) (maxL := 8) (ret := (some .int)) (own := RX3) (by decide) rfl rfl (Nat.le_of_ble_eq_true rfl) ?_
  intro p e s m args below meth c A ls B hP hD hS hl
  obtain ⟨hx, hb, hret, hml, hts, hown, hlocks, hE, hA⟩ := id B
  have hK := hE.1
  have hl : lv_has ls 8 [(0, .ref (ad 0)), (1, .int x1)] := hl
  refine lv_aload_n hx hb dX3_ordersDecidedBy_0 rfl (lv_at hl 0 rfl) ?_
  refine va_get (D := D) (ci := 3) (v := .ref (ad 2)) (C := RX3) (T := TX3) (N := 7) hx hb hts iw_X3_ordersDecidedBy_3 hown hK hP 0 rfl rfl 1 (by decide) (hts (.fieldLink RX3 20 "TownLisp" "now" "LTownLisp$Town;") (by decide +kernel)) (fun _ h9 => h9) rfl dX3_ordersDecidedBy_1 ?_
  refine va_get (D := D) (ci := 2) (v := .int (T_inside (X_now X))) (C := RX2) (T := TX2) (N := 6) hx hb hts iw_X3_ordersDecidedBy_2 hown hK hP 2 rfl rfl 4 (by decide) (hts (.fieldLink RX3 93 "TownLisp$Town" "inside" "I") (by decide +kernel)) (fun _ h9 => h9) rfl dX3_ordersDecidedBy_4 ?_
  refine lv_iconst (v := (1 : Int32)) hx hb dX3_ordersDecidedBy_7 (by decide) ?_
  refine lv_iload_n hx hb dX3_ordersDecidedBy_8 rfl (lv_at hl 1 rfl) ?_
  refine lv_ishl hx hb dX3_ordersDecidedBy_9 ?_
  refine lv_iconst (v := (-1 : Int32)) hx hb dX3_ordersDecidedBy_10 (by decide) ?_
  refine lv_ixor hx hb dX3_ordersDecidedBy_11 ?_
  refine lv_iand hx hb dX3_ordersDecidedBy_12 ?_
  refine lv_istore_n (lv' := [(2, .int ((T_inside (X_now X)) &&& (((1 : Int32) <<< (x1 &&& 31)) ^^^ (-1 : Int32)))), (0, .ref (ad 0)), (1, .int x1)]) hx hb dX3_ordersDecidedBy_13 rfl hl (by decide) rfl (fun ls hl => ?_)
  refine lv_aload_n hx hb dX3_ordersDecidedBy_14 rfl (lv_at hl 1 rfl) ?_
  refine va_get (D := D) (ci := 3) (v := .ref (ad 2)) (C := RX3) (T := TX3) (N := 7) hx hb hts iw_X3_ordersDecidedBy_3 hown hK hP 0 rfl rfl 1 (by decide) (hts (.fieldLink RX3 20 "TownLisp" "now" "LTownLisp$Town;") (by decide +kernel)) (fun _ h9 => h9) rfl dX3_ordersDecidedBy_15 ?_
  refine lv_aload_n hx hb dX3_ordersDecidedBy_18 rfl (lv_at hl 1 rfl) ?_
  refine va_get (D := D) (ci := 3) (v := .ref (ad 2)) (C := RX3) (T := TX3) (N := 7) hx hb hts iw_X3_ordersDecidedBy_3 hown hK hP 0 rfl rfl 1 (by decide) (hts (.fieldLink RX3 20 "TownLisp" "now" "LTownLisp$Town;") (by decide +kernel)) (fun _ h9 => h9) rfl dX3_ordersDecidedBy_19 ?_
  refine va_get (D := D) (ci := 2) (v := .int (T_inside (X_now X))) (C := RX2) (T := TX2) (N := 6) hx hb hts iw_X3_ordersDecidedBy_2 hown hK hP 2 rfl rfl 4 (by decide) (hts (.fieldLink RX3 93 "TownLisp$Town" "inside" "I") (by decide +kernel)) (fun _ h9 => h9) rfl dX3_ordersDecidedBy_22 ?_
  refine kc_V (As := [.int (T_inside (X_now X))]) (rest := []) B (c_X2_partsOf l D cI cO tF (ad 2) (ad 3) (ad 4) (ad 5) (X_now X) (T_inside (X_now X)) (hn)) (cwV 1 hts gX3_ordersDecidedBy_X2_partsOf rfl rfl rfl (by decide +kernel) ⟨Nat.le_of_ble_eq_true rfl, Nat.le_of_ble_eq_true rfl⟩) hP hD hS [2, 3, 4, 5] wX_subN (by decide) (w' := wX ad cI cO X) (wX_sameN) rfl 2 2 rfl rfl rfl rfl hl.1 rfl (Nat.le_of_ble_eq_true rfl) dX3_ordersDecidedBy_25 ⟨Nat.zero_le _, Nat.zero_le _⟩ (fun H locs hP hD hS => ?_)
  have hD : va_D A (wX ad cI cO X) := hD
  refine lv_istore_n (lv' := [(3, .int (f_X2_partsOf (X_now X) (T_inside (X_now X)))), (2, .int ((T_inside (X_now X)) &&& (((1 : Int32) <<< (x1 &&& 31)) ^^^ (-1 : Int32)))), (0, .ref (ad 0)), (1, .int x1)]) hx hb dX3_ordersDecidedBy_28 rfl hl (by decide) rfl (fun ls hl => ?_)
  refine lv_iconst (v := (0 : Int32)) hx hb dX3_ordersDecidedBy_29 (by decide) ?_
  refine lv_istore (lv' := [(4, .int (0 : Int32)), (3, .int (f_X2_partsOf (X_now X) (T_inside (X_now X)))), (2, .int ((T_inside (X_now X)) &&& (((1 : Int32) <<< (x1 &&& 31)) ^^^ (-1 : Int32)))), (0, .ref (ad 0)), (1, .int x1)]) hx hb dX3_ordersDecidedBy_30 hl (by decide) rfl (fun ls hl => ?_)
  refine lv_iconst (v := (0 : Int32)) hx hb dX3_ordersDecidedBy_32 (by decide) ?_
  refine lv_istore (lv' := [(5, .int (0 : Int32)), (4, .int (0 : Int32)), (3, .int (f_X2_partsOf (X_now X) (T_inside (X_now X)))), (2, .int ((T_inside (X_now X)) &&& (((1 : Int32) <<< (x1 &&& 31)) ^^^ (-1 : Int32)))), (0, .ref (ad 0)), (1, .int x1)]) hx hb dX3_ordersDecidedBy_33 hl (by decide) rfl (fun ls hl => ?_)
  have hF : f_X3_ordersDecidedBy X x1 = fL_X3_ordersDecidedBy_35 X x1 ((T_inside (X_now X)) &&& (((1 : Int32) <<< (x1 &&& 31)) ^^^ (-1 : Int32))) (f_X2_partsOf (X_now X) (T_inside (X_now X))) ((f_X2_allSets (X_now X)).toInt.toNat + 1) (0 : Int32) (0 : Int32) := by rw [f_X3_ordersDecidedBy]
  rw [hF]
  exact L_X3_ordersDecidedBy_35 l D cI cO tF ad X x1 ((T_inside (X_now X)) &&& (((1 : Int32) <<< (x1 &&& 31)) ^^^ (-1 : Int32))) (f_X2_partsOf (X_now X) (T_inside (X_now X))) hn hp B  ((f_X2_allSets (X_now X)).toInt.toNat + 1) (0 : Int32) (0 : Int32) (Int.le_refl _) (by rw [show (0 : Int32).toInt = 0 from rfl]; omega) _ _ hP hD hS ls (lv_sub hl [4, 5, 3, 2, 1, 0] rfl)
def f_X3_worth (X : XS) (x1 : Int32) (x2 : Int32) : Int64 := (if (f_X2_has (X_now X) x1) = 0 then (-9223372036854775808 : Int64) else (if (f_X3_isHalfOfShare x2) = 0 then (-9223372036854775808 : Int64) else (if (f_X2_isIn (X_now X) x1) = 0 then (-9223372036854775808 : Int64) else (f_X3_shareOf (f_X3_ordersDecidedBy X x1) (f_X3_ordersOf (T_inside (X_now X))) x2))))
theorem iw_X3_worth_2 : ∀ w ∈ wsX20, w ∈ wsX3_worth := fun _ h => List.mem_cons_of_mem _ (List.mem_append_right _ h)
theorem iw_X3_worth_3 : ∀ w ∈ wsX30, w ∈ wsX3_worth := fun _ h => List.mem_cons_of_mem _ (List.mem_append_left _ (List.mem_append_right _ h))
set_option maxHeartbeats 4000000 in
set_option maxRecDepth 100000 in
theorem c_X3_worth (l : Launch) (D : va_G) (cI cO : ClassId) (tF : Nat) (ad : Nat → Nat) (X : XS) (x1 : Int32) (x2 : Int32) (hn : (T_count (X_now X)).toInt ≤ 6) : Ct l yX3_worth wsX3_worth ({ frames := 3, cells := 0, slots := 0, locals := 71 }) D cI cO tF [.ref (ad 0), .int x1, .int x2] (wX ad cI cO X) (some (.long (f_X3_worth X x1 x2))) (wX ad cI cO X) := by
  refine Ct.of (cc := cX3_worth) (maxL := 3) (ret := (some .long)) (own := RX3) (by decide) rfl rfl (Nat.le_of_ble_eq_true rfl) ?_
  intro p e s m args below meth c A ls B hP hD hS hl
  obtain ⟨hx, hb, hret, hml, hts, hown, hlocks, hE, hA⟩ := id B
  have hK := hE.1
  have hl : lv_has ls 3 [(0, .ref (ad 0)), (1, .int x1), (2, .int x2)] := hl
  refine lv_aload_n hx hb dX3_worth_0 rfl (lv_at hl 0 rfl) ?_
  refine va_get (D := D) (ci := 3) (v := .ref (ad 2)) (C := RX3) (T := TX3) (N := 7) hx hb hts iw_X3_worth_3 hown hK hP 0 rfl rfl 1 (by decide) (hts (.fieldLink RX3 20 "TownLisp" "now" "LTownLisp$Town;") (by decide +kernel)) (fun _ h9 => h9) rfl dX3_worth_1 ?_
  refine lv_iload_n hx hb dX3_worth_4 rfl (lv_at hl 1 rfl) ?_
  refine kc_V (As := [.int x1]) (rest := []) B (c_X2_has l D cI cO tF (ad 2) (ad 3) (ad 4) (ad 5) (X_now X) x1 ) (cwV 1 hts gX3_worth_X2_has rfl rfl rfl (by decide +kernel) ⟨Nat.le_of_ble_eq_true rfl, Nat.le_of_ble_eq_true rfl⟩) hP hD hS [2, 3, 4, 5] wX_subN (by decide) (w' := wX ad cI cO X) (wX_sameN) rfl 2 2 rfl rfl rfl rfl hl.1 rfl (Nat.le_of_ble_eq_true rfl) dX3_worth_5 ⟨Nat.zero_le _, Nat.zero_le _⟩ (fun H locs hP hD hS => ?_)
  have hD : va_D A (wX ad cI cO X) := hD
  refine lv_if_eq (tgt := 29) hx hb dX3_worth_8 (by decide) (fun c_8 => ?_) (fun c_8 => ?_)
  · refine lv_ldc2 hx hb hown (hts (.constantLong RX3 140 (-9223372036854775808 : Int64)) (by decide +kernel)) dX3_worth_29 ?_
    have hF : f_X3_worth X x1 x2 = (-9223372036854775808 : Int64) := by rw [f_X3_worth, if_pos c_8]
    rw [hF]
    exact kr_l B hP hS rfl rfl dX3_worth_32
  · refine lv_iload_n hx hb dX3_worth_11 rfl (lv_at hl 2 rfl) ?_
    refine kc_S (As := [.int x2]) (rest := []) B (c_X3_isHalfOfShare l D cI cO tF x2 ) (va_cwS 1 hts gX3_worth_X3_isHalfOfShare rfl rfl rfl (by decide +kernel) ⟨Nat.le_of_ble_eq_true rfl, Nat.le_of_ble_eq_true rfl⟩) hP hD hS [] rfl (by decide) (w' := wX ad cI cO X) rfl rfl rfl hl.1 rfl (Nat.le_of_ble_eq_true rfl) dX3_worth_12 ⟨Nat.zero_le _, Nat.zero_le _⟩ (fun H locs hP hD hS => ?_)
    have hD : va_D A (wX ad cI cO X) := hD
    refine lv_if_eq (tgt := 29) hx hb dX3_worth_15 (by decide) (fun c_15 => ?_) (fun c_15 => ?_)
    · refine lv_ldc2 hx hb hown (hts (.constantLong RX3 140 (-9223372036854775808 : Int64)) (by decide +kernel)) dX3_worth_29 ?_
      have hF : f_X3_worth X x1 x2 = (-9223372036854775808 : Int64) := by rw [f_X3_worth, if_neg c_8, if_pos c_15]
      rw [hF]
      exact kr_l B hP hS rfl rfl dX3_worth_32
    · refine lv_aload_n hx hb dX3_worth_18 rfl (lv_at hl 0 rfl) ?_
      refine va_get (D := D) (ci := 3) (v := .ref (ad 2)) (C := RX3) (T := TX3) (N := 7) hx hb hts iw_X3_worth_3 hown hK hP 0 rfl rfl 1 (by decide) (hts (.fieldLink RX3 20 "TownLisp" "now" "LTownLisp$Town;") (by decide +kernel)) (fun _ h9 => h9) rfl dX3_worth_19 ?_
      refine lv_iload_n hx hb dX3_worth_22 rfl (lv_at hl 1 rfl) ?_
      refine kc_V (As := [.int x1]) (rest := []) B (c_X2_isIn l D cI cO tF (ad 2) (ad 3) (ad 4) (ad 5) (X_now X) x1 ) (cwV 1 hts gX3_worth_X2_isIn rfl rfl rfl (by decide +kernel) ⟨Nat.le_of_ble_eq_true rfl, Nat.le_of_ble_eq_true rfl⟩) hP hD hS [2, 3, 4, 5] wX_subN (by decide) (w' := wX ad cI cO X) (wX_sameN) rfl 2 2 rfl rfl rfl rfl hl.1 rfl (Nat.le_of_ble_eq_true rfl) dX3_worth_23 ⟨Nat.zero_le _, Nat.zero_le _⟩ (fun H locs hP hD hS => ?_)
      have hD : va_D A (wX ad cI cO X) := hD
      refine lv_if_ne (tgt := 33) hx hb dX3_worth_26 (by decide) (fun c_26 => ?_) (fun c_26 => ?_)
      · refine lv_aload_n hx hb dX3_worth_33 rfl (lv_at hl 0 rfl) ?_
        refine lv_iload_n hx hb dX3_worth_34 rfl (lv_at hl 1 rfl) ?_
        refine kc_V (As := [.int x1]) (rest := []) B (c_X3_ordersDecidedBy l D cI cO tF ad X x1 (hn) (has_in hn c_8)) (cwV 1 hts gX3_worth_X3_ordersDecidedBy rfl rfl rfl (by decide +kernel) ⟨Nat.le_of_ble_eq_true rfl, Nat.le_of_ble_eq_true rfl⟩) hP hD hS [0, 1, 2, 3, 4, 5, 6, 7, 8, 9, 10, 11, 12, 13, 14, 15, 16, 17, 18, 19, 20, 21] wX_subA (by decide) (w' := wX ad cI cO X) (wX_setA _) (wX_fst _) 0 3 rfl rfl rfl rfl hl.1 rfl (Nat.le_of_ble_eq_true rfl) dX3_worth_35 ⟨Nat.zero_le _, Nat.zero_le _⟩ (fun H locs hP hD hS => ?_)
        have hD : va_D A (wX ad cI cO X) := hD
        refine lv_aload_n hx hb dX3_worth_38 rfl (lv_at hl 0 rfl) ?_
        refine va_get (D := D) (ci := 3) (v := .ref (ad 2)) (C := RX3) (T := TX3) (N := 7) hx hb hts iw_X3_worth_3 hown hK hP 0 rfl rfl 1 (by decide) (hts (.fieldLink RX3 20 "TownLisp" "now" "LTownLisp$Town;") (by decide +kernel)) (fun _ h9 => h9) rfl dX3_worth_39 ?_
        refine va_get (D := D) (ci := 2) (v := .int (T_inside (X_now X))) (C := RX2) (T := TX2) (N := 6) hx hb hts iw_X3_worth_2 hown hK hP 2 rfl rfl 4 (by decide) (hts (.fieldLink RX3 93 "TownLisp$Town" "inside" "I") (by decide +kernel)) (fun _ h9 => h9) rfl dX3_worth_42 ?_
        refine kc_S (As := [.int (T_inside (X_now X))]) (rest := [.int (f_X3_ordersDecidedBy X x1)]) B (c_X3_ordersOf l D cI cO tF (T_inside (X_now X)) ) (va_cwS 1 hts gX3_worth_X3_ordersOf rfl rfl rfl (by decide +kernel) ⟨Nat.le_of_ble_eq_true rfl, Nat.le_of_ble_eq_true rfl⟩) hP hD hS [] rfl (by decide) (w' := wX ad cI cO X) rfl rfl rfl hl.1 rfl (Nat.le_of_ble_eq_true rfl) dX3_worth_45 ⟨Nat.zero_le _, Nat.zero_le _⟩ (fun H locs hP hD hS => ?_)
        have hD : va_D A (wX ad cI cO X) := hD
        refine lv_iload_n hx hb dX3_worth_48 rfl (lv_at hl 2 rfl) ?_
        refine kc_S (As := [.int (f_X3_ordersDecidedBy X x1), .int (f_X3_ordersOf (T_inside (X_now X))), .int x2]) (rest := []) B (c_X3_shareOf l D cI cO tF (f_X3_ordersDecidedBy X x1) (f_X3_ordersOf (T_inside (X_now X))) x2 ) (va_cwS 3 hts gX3_worth_X3_shareOf rfl rfl rfl (by decide +kernel) ⟨Nat.le_of_ble_eq_true rfl, Nat.le_of_ble_eq_true rfl⟩) hP hD hS [] rfl (by decide) (w' := wX ad cI cO X) rfl rfl rfl hl.1 rfl (Nat.le_of_ble_eq_true rfl) dX3_worth_49 ⟨Nat.zero_le _, Nat.zero_le _⟩ (fun H locs hP hD hS => ?_)
        have hD : va_D A (wX ad cI cO X) := hD
        have hF : f_X3_worth X x1 x2 = (f_X3_shareOf (f_X3_ordersDecidedBy X x1) (f_X3_ordersOf (T_inside (X_now X))) x2) := by rw [f_X3_worth, if_neg c_8, if_neg c_15, if_neg c_26]
        rw [hF]
        exact kr_l B hP hS rfl rfl dX3_worth_52
      · refine lv_ldc2 hx hb hown (hts (.constantLong RX3 140 (-9223372036854775808 : Int64)) (by decide +kernel)) dX3_worth_29 ?_
        have hF : f_X3_worth X x1 x2 = (-9223372036854775808 : Int64) := by rw [f_X3_worth, if_neg c_8, if_neg c_15, if_pos c_26]
        rw [hF]
        exact kr_l B hP hS rfl rfl dX3_worth_32
def f_X3_mean (X : XS) (x1 : Int32) : Int64 := (if (f_X3_isHalfOfShare x1) = 0 then (-9223372036854775808 : Int64) else (if (T_inside (X_now X)) = 0 then (-9223372036854775808 : Int64) else (f_X3_shareOf (f_X2_partsOf (X_now X) (T_inside (X_now X))) (f_X2_heads (X_now X)) x1)))
theorem iw_X3_mean_2 : ∀ w ∈ wsX20, w ∈ wsX3_mean := fun _ h => List.mem_cons_of_mem _ (List.mem_append_right _ h)
theorem iw_X3_mean_3 : ∀ w ∈ wsX30, w ∈ wsX3_mean := fun _ h => List.mem_cons_of_mem _ (List.mem_append_left _ (List.mem_append_right _ h))
set_option maxHeartbeats 4000000 in
set_option maxRecDepth 100000 in
theorem c_X3_mean (l : Launch) (D : va_G) (cI cO : ClassId) (tF : Nat) (ad : Nat → Nat) (X : XS) (x1 : Int32) (hn : (T_count (X_now X)).toInt ≤ 6) : Ct l yX3_mean wsX3_mean ({ frames := 2, cells := 0, slots := 0, locals := 44 }) D cI cO tF [.ref (ad 0), .int x1] (wX ad cI cO X) (some (.long (f_X3_mean X x1))) (wX ad cI cO X) := by
  refine Ct.of (cc := cX3_mean) (maxL := 2) (ret := (some .long)) (own := RX3) (by decide) rfl rfl (Nat.le_of_ble_eq_true rfl) ?_
  intro p e s m args below meth c A ls B hP hD hS hl
  obtain ⟨hx, hb, hret, hml, hts, hown, hlocks, hE, hA⟩ := id B
  have hK := hE.1
  have hl : lv_has ls 2 [(0, .ref (ad 0)), (1, .int x1)] := hl
  refine lv_iload_n hx hb dX3_mean_0 rfl (lv_at hl 1 rfl) ?_
  refine kc_S (As := [.int x1]) (rest := []) B (c_X3_isHalfOfShare l D cI cO tF x1 ) (va_cwS 1 hts gX3_mean_X3_isHalfOfShare rfl rfl rfl (by decide +kernel) ⟨Nat.le_of_ble_eq_true rfl, Nat.le_of_ble_eq_true rfl⟩) hP hD hS [] rfl (by decide) (w' := wX ad cI cO X) rfl rfl rfl hl.1 rfl (Nat.le_of_ble_eq_true rfl) dX3_mean_1 ⟨Nat.zero_le _, Nat.zero_le _⟩ (fun H locs hP hD hS => ?_)
  have hD : va_D A (wX ad cI cO X) := hD
  refine lv_if_eq (tgt := 17) hx hb dX3_mean_4 (by decide) (fun c_4 => ?_) (fun c_4 => ?_)
  · refine lv_ldc2 hx hb hown (hts (.constantLong RX3 140 (-9223372036854775808 : Int64)) (by decide +kernel)) dX3_mean_17 ?_
    have hF : f_X3_mean X x1 = (-9223372036854775808 : Int64) := by rw [f_X3_mean, if_pos c_4]
    rw [hF]
    exact kr_l B hP hS rfl rfl dX3_mean_20
  · refine lv_aload_n hx hb dX3_mean_7 rfl (lv_at hl 0 rfl) ?_
    refine va_get (D := D) (ci := 3) (v := .ref (ad 2)) (C := RX3) (T := TX3) (N := 7) hx hb hts iw_X3_mean_3 hown hK hP 0 rfl rfl 1 (by decide) (hts (.fieldLink RX3 20 "TownLisp" "now" "LTownLisp$Town;") (by decide +kernel)) (fun _ h9 => h9) rfl dX3_mean_8 ?_
    refine va_get (D := D) (ci := 2) (v := .int (T_inside (X_now X))) (C := RX2) (T := TX2) (N := 6) hx hb hts iw_X3_mean_2 hown hK hP 2 rfl rfl 4 (by decide) (hts (.fieldLink RX3 93 "TownLisp$Town" "inside" "I") (by decide +kernel)) (fun _ h9 => h9) rfl dX3_mean_11 ?_
    refine lv_if_ne (tgt := 21) hx hb dX3_mean_14 (by decide) (fun c_14 => ?_) (fun c_14 => ?_)
    · refine lv_aload_n hx hb dX3_mean_21 rfl (lv_at hl 0 rfl) ?_
      refine va_get (D := D) (ci := 3) (v := .ref (ad 2)) (C := RX3) (T := TX3) (N := 7) hx hb hts iw_X3_mean_3 hown hK hP 0 rfl rfl 1 (by decide) (hts (.fieldLink RX3 20 "TownLisp" "now" "LTownLisp$Town;") (by decide +kernel)) (fun _ h9 => h9) rfl dX3_mean_22 ?_
      refine lv_aload_n hx hb dX3_mean_25 rfl (lv_at hl 0 rfl) ?_
      refine va_get (D := D) (ci := 3) (v := .ref (ad 2)) (C := RX3) (T := TX3) (N := 7) hx hb hts iw_X3_mean_3 hown hK hP 0 rfl rfl 1 (by decide) (hts (.fieldLink RX3 20 "TownLisp" "now" "LTownLisp$Town;") (by decide +kernel)) (fun _ h9 => h9) rfl dX3_mean_26 ?_
      refine va_get (D := D) (ci := 2) (v := .int (T_inside (X_now X))) (C := RX2) (T := TX2) (N := 6) hx hb hts iw_X3_mean_2 hown hK hP 2 rfl rfl 4 (by decide) (hts (.fieldLink RX3 93 "TownLisp$Town" "inside" "I") (by decide +kernel)) (fun _ h9 => h9) rfl dX3_mean_29 ?_
      refine kc_V (As := [.int (T_inside (X_now X))]) (rest := []) B (c_X2_partsOf l D cI cO tF (ad 2) (ad 3) (ad 4) (ad 5) (X_now X) (T_inside (X_now X)) (hn)) (cwV 1 hts gX3_mean_X2_partsOf rfl rfl rfl (by decide +kernel) ⟨Nat.le_of_ble_eq_true rfl, Nat.le_of_ble_eq_true rfl⟩) hP hD hS [2, 3, 4, 5] wX_subN (by decide) (w' := wX ad cI cO X) (wX_sameN) rfl 2 2 rfl rfl rfl rfl hl.1 rfl (Nat.le_of_ble_eq_true rfl) dX3_mean_32 ⟨Nat.zero_le _, Nat.zero_le _⟩ (fun H locs hP hD hS => ?_)
      have hD : va_D A (wX ad cI cO X) := hD
      refine lv_aload_n hx hb dX3_mean_35 rfl (lv_at hl 0 rfl) ?_
      refine va_get (D := D) (ci := 3) (v := .ref (ad 2)) (C := RX3) (T := TX3) (N := 7) hx hb hts iw_X3_mean_3 hown hK hP 0 rfl rfl 1 (by decide) (hts (.fieldLink RX3 20 "TownLisp" "now" "LTownLisp$Town;") (by decide +kernel)) (fun _ h9 => h9) rfl dX3_mean_36 ?_
      refine kc_V (As := []) (rest := [.int (f_X2_partsOf (X_now X) (T_inside (X_now X)))]) B (c_X2_heads l D cI cO tF (ad 2) (ad 3) (ad 4) (ad 5) (X_now X) ) (cwV 0 hts gX3_mean_X2_heads rfl rfl rfl (by decide +kernel) ⟨Nat.le_of_ble_eq_true rfl, Nat.le_of_ble_eq_true rfl⟩) hP hD hS [2, 3, 4, 5] wX_subN (by decide) (w' := wX ad cI cO X) (wX_sameN) rfl 2 2 rfl rfl rfl rfl hl.1 rfl (Nat.le_of_ble_eq_true rfl) dX3_mean_39 ⟨Nat.zero_le _, Nat.zero_le _⟩ (fun H locs hP hD hS => ?_)
      have hD : va_D A (wX ad cI cO X) := hD
      refine lv_iload_n hx hb dX3_mean_42 rfl (lv_at hl 1 rfl) ?_
      refine kc_S (As := [.int (f_X2_partsOf (X_now X) (T_inside (X_now X))), .int (f_X2_heads (X_now X)), .int x1]) (rest := []) B (c_X3_shareOf l D cI cO tF (f_X2_partsOf (X_now X) (T_inside (X_now X))) (f_X2_heads (X_now X)) x1 ) (va_cwS 3 hts gX3_mean_X3_shareOf rfl rfl rfl (by decide +kernel) ⟨Nat.le_of_ble_eq_true rfl, Nat.le_of_ble_eq_true rfl⟩) hP hD hS [] rfl (by decide) (w' := wX ad cI cO X) rfl rfl rfl hl.1 rfl (Nat.le_of_ble_eq_true rfl) dX3_mean_43 ⟨Nat.zero_le _, Nat.zero_le _⟩ (fun H locs hP hD hS => ?_)
      have hD : va_D A (wX ad cI cO X) := hD
      have hF : f_X3_mean X x1 = (f_X3_shareOf (f_X2_partsOf (X_now X) (T_inside (X_now X))) (f_X2_heads (X_now X)) x1) := by rw [f_X3_mean, if_neg c_4, if_neg c_14]
      rw [hF]
      exact kr_l B hP hS rfl rfl dX3_mean_46
    · refine lv_ldc2 hx hb hown (hts (.constantLong RX3 140 (-9223372036854775808 : Int64)) (by decide +kernel)) dX3_mean_17 ?_
      have hF : f_X3_mean X x1 = (-9223372036854775808 : Int64) := by rw [f_X3_mean, if_neg c_4, if_pos c_14]
      rw [hF]
      exact kr_l B hP hS rfl rfl dX3_mean_20
def f_X3_reading (X : XS) (x1 : Int32) (x2 : Int32) (x3 : Int32) : Int32 × XS := (if (f_X2_has (X_now X) x1) = 0 then ((-1 : Int32), X) else (if x2 < 0 then ((-2 : Int32), X) else (if (300 : Int32) < x2 then ((-2 : Int32), X) else (if x3 < 0 then ((-2 : Int32), X) else (if x3 ≤ (600 : Int32) then (if (R_count (X_said X)) < (8 : Int32) then ((f_X0_take (X_said X) x1 x2 x3).1, (X_said' X (f_X0_take (X_said X) x1 x2 x3).2)) else ((-4 : Int32), X)) else ((-2 : Int32), X))))))
theorem iw_X3_reading_0 : ∀ w ∈ wsX00, w ∈ wsX3_reading := fun _ h => List.mem_cons_of_mem _ (List.mem_append_left _ (List.mem_append_right _ h))
theorem iw_X3_reading_3 : ∀ w ∈ wsX30, w ∈ wsX3_reading := fun _ h => List.mem_cons_of_mem _ (List.mem_append_left _ (List.mem_append_left _ (List.mem_append_right _ h)))
set_option maxHeartbeats 4000000 in
set_option maxRecDepth 100000 in
theorem c_X3_reading (l : Launch) (D : va_G) (cI cO : ClassId) (tF : Nat) (ad : Nat → Nat) (X : XS) (x1 : Int32) (x2 : Int32) (x3 : Int32) (hn : (T_count (X_now X)).toInt ≤ 6) (hr0 : 0 ≤ (R_count (X_said X)).toInt) : Ct l yX3_reading wsX3_reading ({ frames := 1, cells := 0, slots := 0, locals := 23 }) D cI cO tF [.ref (ad 0), .int x1, .int x2, .int x3] (wX ad cI cO X) (some (.int ((f_X3_reading X x1 x2 x3).1))) (wX ad cI cO ((f_X3_reading X x1 x2 x3).2)) := by
  refine Ct.of (cc := cX3_reading) (maxL := 4) (ret := (some .int)) (own := RX3) (by decide) rfl rfl (Nat.le_of_ble_eq_true rfl) ?_
  intro p e s m args below meth c A ls B hP hD hS hl
  obtain ⟨hx, hb, hret, hml, hts, hown, hlocks, hE, hA⟩ := id B
  have hK := hE.1
  have hl : lv_has ls 4 [(0, .ref (ad 0)), (1, .int x1), (2, .int x2), (3, .int x3)] := hl
  refine lv_aload_n hx hb dX3_reading_0 rfl (lv_at hl 0 rfl) ?_
  refine va_get (D := D) (ci := 3) (v := .ref (ad 2)) (C := RX3) (T := TX3) (N := 7) hx hb hts iw_X3_reading_3 hown hK hP 0 rfl rfl 1 (by decide) (hts (.fieldLink RX3 20 "TownLisp" "now" "LTownLisp$Town;") (by decide +kernel)) (fun _ h9 => h9) rfl dX3_reading_1 ?_
  refine lv_iload_n hx hb dX3_reading_4 rfl (lv_at hl 1 rfl) ?_
  refine kc_V (As := [.int x1]) (rest := []) B (c_X2_has l D cI cO tF (ad 2) (ad 3) (ad 4) (ad 5) (X_now X) x1 ) (cwV 1 hts gX3_reading_X2_has rfl rfl rfl (by decide +kernel) ⟨Nat.le_of_ble_eq_true rfl, Nat.le_of_ble_eq_true rfl⟩) hP hD hS [2, 3, 4, 5] wX_subN (by decide) (w' := wX ad cI cO X) (wX_sameN) rfl 2 2 rfl rfl rfl rfl hl.1 rfl (Nat.le_of_ble_eq_true rfl) dX3_reading_5 ⟨Nat.zero_le _, Nat.zero_le _⟩ (fun H locs hP hD hS => ?_)
  have hD : va_D A (wX ad cI cO X) := hD
  refine lv_if_ne (tgt := 13) hx hb dX3_reading_8 (by decide) (fun c_8 => ?_) (fun c_8 => ?_)
  · refine lv_iload_n hx hb dX3_reading_13 rfl (lv_at hl 2 rfl) ?_
    refine lv_if_lt (tgt := 35) hx hb dX3_reading_14 (by decide) (fun c_14 => ?_) (fun c_14 => ?_)
    · refine lv_bipush (v := (-2 : Int32)) hx hb dX3_reading_35 (by decide) ?_
      have hF : f_X3_reading X x1 x2 x3 = ((-2 : Int32), X) := by rw [f_X3_reading, if_neg c_8, if_pos c_14]
      rw [hF]
      exact kr_i B hP hS rfl rfl dX3_reading_37
    · refine lv_iload_n hx hb dX3_reading_17 rfl (lv_at hl 2 rfl) ?_
      refine lv_sipush (v := (300 : Int32)) hx hb dX3_reading_18 (by decide) ?_
      refine lv_icmp_gt (tgt := 35) hx hb dX3_reading_21 (by decide) (fun c_21 => ?_) (fun c_21 => ?_)
      · refine lv_bipush (v := (-2 : Int32)) hx hb dX3_reading_35 (by decide) ?_
        have hF : f_X3_reading X x1 x2 x3 = ((-2 : Int32), X) := by rw [f_X3_reading, if_neg c_8, if_neg c_14, if_pos c_21]
        rw [hF]
        exact kr_i B hP hS rfl rfl dX3_reading_37
      · refine lv_iload_n hx hb dX3_reading_24 rfl (lv_at hl 3 rfl) ?_
        refine lv_if_lt (tgt := 35) hx hb dX3_reading_25 (by decide) (fun c_25 => ?_) (fun c_25 => ?_)
        · refine lv_bipush (v := (-2 : Int32)) hx hb dX3_reading_35 (by decide) ?_
          have hF : f_X3_reading X x1 x2 x3 = ((-2 : Int32), X) := by rw [f_X3_reading, if_neg c_8, if_neg c_14, if_neg c_21, if_pos c_25]
          rw [hF]
          exact kr_i B hP hS rfl rfl dX3_reading_37
        · refine lv_iload_n hx hb dX3_reading_28 rfl (lv_at hl 3 rfl) ?_
          refine lv_sipush (v := (600 : Int32)) hx hb dX3_reading_29 (by decide) ?_
          refine lv_icmp_le (tgt := 38) hx hb dX3_reading_32 (by decide) (fun c_32 => ?_) (fun c_32 => ?_)
          · refine lv_aload_n hx hb dX3_reading_38 rfl (lv_at hl 0 rfl) ?_
            refine va_get (D := D) (ci := 3) (v := .ref (ad 10)) (C := RX3) (T := TX3) (N := 7) hx hb hts iw_X3_reading_3 hown hK hP 0 rfl rfl 3 (by decide) (hts (.fieldLink RX3 30 "TownLisp" "said" "LTownLisp$Readings;") (by decide +kernel)) (fun _ h9 => h9) rfl dX3_reading_39 ?_
            refine va_get (D := D) (ci := 0) (v := .int (R_count (X_said X))) (C := RX0) (T := TX0) (N := 4) hx hb hts iw_X3_reading_0 hown hK hP 10 rfl rfl 3 (by decide) (hts (.fieldLink RX3 63 "TownLisp$Readings" "count" "I") (by decide +kernel)) (fun _ h9 => h9) rfl dX3_reading_42 ?_
            refine lv_bipush (v := (8 : Int32)) hx hb dX3_reading_45 (by decide) ?_
            refine lv_icmp_lt (tgt := 53) hx hb dX3_reading_47 (by decide) (fun c_47 => ?_) (fun c_47 => ?_)
            · refine lv_aload_n hx hb dX3_reading_53 rfl (lv_at hl 0 rfl) ?_
              refine va_get (D := D) (ci := 3) (v := .ref (ad 10)) (C := RX3) (T := TX3) (N := 7) hx hb hts iw_X3_reading_3 hown hK hP 0 rfl rfl 3 (by decide) (hts (.fieldLink RX3 30 "TownLisp" "said" "LTownLisp$Readings;") (by decide +kernel)) (fun _ h9 => h9) rfl dX3_reading_54 ?_
              refine lv_iload_n hx hb dX3_reading_57 rfl (lv_at hl 1 rfl) ?_
              refine lv_iload_n hx hb dX3_reading_58 rfl (lv_at hl 2 rfl) ?_
              refine lv_iload_n hx hb dX3_reading_59 rfl (lv_at hl 3 rfl) ?_
              refine kc_V (As := [.int x1, .int x2, .int x3]) (rest := []) B (c_X0_take l D cI cO tF (ad 10) (ad 11) (ad 12) (ad 13) (X_said X) x1 x2 x3 (in_lt hr0 c_47)) (cwV 3 hts gX3_reading_X0_take rfl rfl rfl (by decide +kernel) ⟨Nat.le_of_ble_eq_true rfl, Nat.le_of_ble_eq_true rfl⟩) hP hD hS [10, 11, 12, 13] wX_subR (by decide) (w' := wX ad cI cO (X_said' X (f_X0_take (X_said X) x1 x2 x3).2)) (wX_setR _) rfl 10 0 rfl rfl rfl rfl hl.1 rfl (Nat.le_of_ble_eq_true rfl) dX3_reading_60 ⟨Nat.zero_le _, Nat.zero_le _⟩ (fun H locs hP hD hS => ?_)
              have hD : va_D A (wX ad cI cO (X_said' X (f_X0_take (X_said X) x1 x2 x3).2)) := hD
              have hF : f_X3_reading X x1 x2 x3 = ((f_X0_take (X_said X) x1 x2 x3).1, (X_said' X (f_X0_take (X_said X) x1 x2 x3).2)) := by rw [f_X3_reading, if_neg c_8, if_neg c_14, if_neg c_21, if_neg c_25, if_pos c_32, if_pos c_47]
              rw [hF]
              exact kr_i B hP hS rfl rfl dX3_reading_63
            · refine lv_bipush (v := (-4 : Int32)) hx hb dX3_reading_50 (by decide) ?_
              have hF : f_X3_reading X x1 x2 x3 = ((-4 : Int32), X) := by rw [f_X3_reading, if_neg c_8, if_neg c_14, if_neg c_21, if_neg c_25, if_pos c_32, if_neg c_47]
              rw [hF]
              exact kr_i B hP hS rfl rfl dX3_reading_52
          · refine lv_bipush (v := (-2 : Int32)) hx hb dX3_reading_35 (by decide) ?_
            have hF : f_X3_reading X x1 x2 x3 = ((-2 : Int32), X) := by rw [f_X3_reading, if_neg c_8, if_neg c_14, if_neg c_21, if_neg c_25, if_neg c_32]
            rw [hF]
            exact kr_i B hP hS rfl rfl dX3_reading_37
  · refine lv_iconst (v := (-1 : Int32)) hx hb dX3_reading_11 (by decide) ?_
    have hF : f_X3_reading X x1 x2 x3 = ((-1 : Int32), X) := by rw [f_X3_reading, if_pos c_8]
    rw [hF]
    exact kr_i B hP hS rfl rfl dX3_reading_12
def f_X3_back (X : XS) (x1 : Int32) : Int32 × XS := (if x1 < 0 then ((-2 : Int32), X) else (if x1 ≤ (R_count (X_said X)) then (((R_count (X_said X)) - x1), (X_said' X (R_count' (X_said X) ((R_count (X_said X)) - x1)))) else ((-2 : Int32), X)))
theorem iw_X3_back_0 : ∀ w ∈ wsX00, w ∈ wsX3_back := fun _ h => List.mem_cons_of_mem _ (List.mem_append_right _ h)
theorem iw_X3_back_3 : ∀ w ∈ wsX30, w ∈ wsX3_back := fun _ h => List.mem_cons_of_mem _ (List.mem_append_left _ (List.mem_append_right _ h))
set_option maxHeartbeats 4000000 in
set_option maxRecDepth 100000 in
theorem c_X3_back (l : Launch) (D : va_G) (cI cO : ClassId) (tF : Nat) (ad : Nat → Nat) (X : XS) (x1 : Int32) : Ct l yX3_back wsX3_back ({ frames := 0, cells := 0, slots := 0, locals := 0 }) D cI cO tF [.ref (ad 0), .int x1] (wX ad cI cO X) (some (.int ((f_X3_back X x1).1))) (wX ad cI cO ((f_X3_back X x1).2)) := by
  refine Ct.of (cc := cX3_back) (maxL := 2) (ret := (some .int)) (own := RX3) (by decide) rfl rfl (Nat.le_of_ble_eq_true rfl) ?_
  intro p e s m args below meth c A ls B hP hD hS hl
  obtain ⟨hx, hb, hret, hml, hts, hown, hlocks, hE, hA⟩ := id B
  have hK := hE.1
  have hl : lv_has ls 2 [(0, .ref (ad 0)), (1, .int x1)] := hl
  refine lv_iload_n hx hb dX3_back_0 rfl (lv_at hl 1 rfl) ?_
  refine lv_if_lt (tgt := 15) hx hb dX3_back_1 (by decide) (fun c_1 => ?_) (fun c_1 => ?_)
  · refine lv_bipush (v := (-2 : Int32)) hx hb dX3_back_15 (by decide) ?_
    have hF : f_X3_back X x1 = ((-2 : Int32), X) := by rw [f_X3_back, if_pos c_1]
    rw [hF]
    exact kr_i B hP hS rfl rfl dX3_back_17
  · refine lv_iload_n hx hb dX3_back_4 rfl (lv_at hl 1 rfl) ?_
    refine lv_aload_n hx hb dX3_back_5 rfl (lv_at hl 0 rfl) ?_
    refine va_get (D := D) (ci := 3) (v := .ref (ad 10)) (C := RX3) (T := TX3) (N := 7) hx hb hts iw_X3_back_3 hown hK hP 0 rfl rfl 3 (by decide) (hts (.fieldLink RX3 30 "TownLisp" "said" "LTownLisp$Readings;") (by decide +kernel)) (fun _ h9 => h9) rfl dX3_back_6 ?_
    refine va_get (D := D) (ci := 0) (v := .int (R_count (X_said X))) (C := RX0) (T := TX0) (N := 4) hx hb hts iw_X3_back_0 hown hK hP 10 rfl rfl 3 (by decide) (hts (.fieldLink RX3 63 "TownLisp$Readings" "count" "I") (by decide +kernel)) (fun _ h9 => h9) rfl dX3_back_9 ?_
    refine lv_icmp_le (tgt := 18) hx hb dX3_back_12 (by decide) (fun c_12 => ?_) (fun c_12 => ?_)
    · refine lv_aload_n hx hb dX3_back_18 rfl (lv_at hl 0 rfl) ?_
      refine va_get (D := D) (ci := 3) (v := .ref (ad 10)) (C := RX3) (T := TX3) (N := 7) hx hb hts iw_X3_back_3 hown hK hP 0 rfl rfl 3 (by decide) (hts (.fieldLink RX3 30 "TownLisp" "said" "LTownLisp$Readings;") (by decide +kernel)) (fun _ h9 => h9) rfl dX3_back_19 ?_
      refine lv_dup hx hb dX3_back_22 rfl ?_
      refine va_get (D := D) (ci := 0) (v := .int (R_count (X_said X))) (C := RX0) (T := TX0) (N := 4) hx hb hts iw_X3_back_0 hown hK hP 10 rfl rfl 3 (by decide) (hts (.fieldLink RX3 63 "TownLisp$Readings" "count" "I") (by decide +kernel)) (fun _ h9 => h9) rfl dX3_back_23 ?_
      refine lv_iload_n hx hb dX3_back_26 rfl (lv_at hl 1 rfl) ?_
      refine lv_isub hx hb dX3_back_27 ?_
      refine va_put (D := D) (ci := 0) (v := .int ((R_count (X_said X)) - x1)) (ty := .int) (C := RX0) (T := TX0) (N := 4) hx hb hts iw_X3_back_0 tyX0 tyX0_ok nmX0 hown hK hP hD hS 10 rfl rfl 3 (by decide) (hts (.fieldLink RX3 63 "TownLisp$Readings" "count" "I") (by decide +kernel)) (fun _ h9 => h9) rfl (by decide +kernel) rfl rfl (Nat.le_of_ble_eq_true rfl) dX3_back_28 (fun H locs hP hD hS => ?_)
      have hP : va_P D vwCl (wX ad cI cO (X_said' X (R_count' (X_said X) ((R_count (X_said X)) - x1)))) H := hP
      have hD : va_D A (wX ad cI cO (X_said' X (R_count' (X_said X) ((R_count (X_said X)) - x1)))) := hD
      refine lv_aload_n hx hb dX3_back_31 rfl (lv_at hl 0 rfl) ?_
      refine va_get (D := D) (ci := 3) (v := .ref (ad 10)) (C := RX3) (T := TX3) (N := 7) hx hb hts iw_X3_back_3 hown hK hP 0 rfl rfl 3 (by decide) (hts (.fieldLink RX3 30 "TownLisp" "said" "LTownLisp$Readings;") (by decide +kernel)) (fun _ h9 => h9) rfl dX3_back_32 ?_
      refine va_get (D := D) (ci := 0) (v := .int ((R_count (X_said X)) - x1)) (C := RX0) (T := TX0) (N := 4) hx hb hts iw_X3_back_0 hown hK hP 10 rfl rfl 3 (by decide) (hts (.fieldLink RX3 63 "TownLisp$Readings" "count" "I") (by decide +kernel)) (fun _ h9 => h9) rfl dX3_back_35 ?_
      have hF : f_X3_back X x1 = (((R_count (X_said X)) - x1), (X_said' X (R_count' (X_said X) ((R_count (X_said X)) - x1)))) := by rw [f_X3_back, if_neg c_1, if_pos c_12]
      rw [hF]
      exact kr_i B hP hS rfl rfl dX3_back_38
    · refine lv_bipush (v := (-2 : Int32)) hx hb dX3_back_15 (by decide) ?_
      have hF : f_X3_back X x1 = ((-2 : Int32), X) := by rw [f_X3_back, if_neg c_1, if_neg c_12]
      rw [hF]
      exact kr_i B hP hS rfl rfl dX3_back_17
def fL_X3_ears_17 (X : XS) (x1 : Int32) : Nat → Int32 → Int32 → Int32
  | 0, _, _ => 0
  | k + 1, x2, x3 => (if (9 : Int32) < x3 then x2 else (if (f_X0_areSo (X_said X) (X_now X) x1 ((T_kind (X_now X)) x1.toNatClampNeg) x3) = 0 then fL_X3_ears_17 X x1 k x2 (x3 + (1 : Int32)) else fL_X3_ears_17 X x1 k (x2 ||| ((1 : Int32) <<< (x3 &&& 31))) (x3 + (1 : Int32))))
def f_X3_ears (X : XS) (x1 : Int32) : Int32 := (if (f_X2_has (X_now X) x1) = 0 then (-1 : Int32) else fL_X3_ears_17 X x1 11 (0 : Int32) (1 : Int32))
theorem iw_X3_ears_2 : ∀ w ∈ wsX20, w ∈ wsX3_ears := fun _ h => List.mem_cons_of_mem _ (List.mem_append_left _ (List.mem_append_right _ h))
theorem iw_X3_ears_3 : ∀ w ∈ wsX30, w ∈ wsX3_ears := fun _ h => List.mem_cons_of_mem _ (List.mem_append_left _ (List.mem_append_left _ (List.mem_append_right _ h)))
set_option maxHeartbeats 4000000 in
set_option maxRecDepth 100000 in
theorem L_X3_ears_17 {p : Program} (l : Launch) {e : Env} {s : State} {m : MethodId} {args : Array Value} {below : List Frame} {meth : Method} {c : Code} {A : Nat → Prop} (D : va_G) (cI cO : ClassId) (tF : Nat) (ad : Nat → Nat) (X : XS) (x1 : Int32) (hn : (T_count (X_now X)).toInt ≤ 6) (hr : (R_count (X_said X)).toInt ≤ 8) (hq : ∀ r : Nat, (r : Int) < (R_count (X_said X)).toInt → vp_in (R_person (X_said X) r) 6) (B : Bx p s m args meth c cX3_ears 4 (some .int) wsX3_ears RX3 D cI cO tF A) (hp : vp_in x1 6) : ∀ (k : Nat) (x2 : Int32) (x3 : Int32), (0 ≤ x3.toInt) → ((9 + 1 - x3.toInt).toNat < k) → ∀ (H : Heap) (locs : List Loc), va_P D vwCl (wX ad cI cO X) H → va_D A (wX ad cI cO X) → va_S A s.heap H locs → ∀ ls : Array Slot, lv_has ls 4 [(0, .ref (ad 0)), (1, .int x1), (2, .int x2), (3, .int x3)] → W p l e ({ frames := 3, cells := 0, slots := 0, locals := 74 }) s m args below meth c H locs 0 0 (MQ below (Qp D (some (.int (fL_X3_ears_17 X x1 k x2 x3))) (wX ad cI cO X) A) args s 0 0 A) (F0 m 17 ls []) := by
  obtain ⟨hx, hb, hret, hml, hts, hown, hlocks, hE, hA⟩ := id B
  have hK := hE.1
  intro k
  induction k with
  | zero =>
    intro x2 x3 h0 hk
    exact absurd hk (Nat.not_lt_zero _)
  | succ k ih =>
    intro x2 x3 h0 hk H locs hP hD hS ls hl
    refine lv_iload_n hx hb dX3_ears_17 rfl (lv_at hl 3 rfl) ?_
    refine lv_bipush (v := (9 : Int32)) hx hb dX3_ears_18 (by decide) ?_
    refine lv_icmp_gt (tgt := 60) hx hb dX3_ears_20 (by decide) (fun c_20 => ?_) (fun c_20 => ?_)
    · refine lv_iload_n hx hb dX3_ears_60 rfl (lv_at hl 2 rfl) ?_
      have hF : fL_X3_ears_17 X x1 (k + 1) x2 x3 = x2 := by rw [fL_X3_ears_17, if_pos c_20]
      rw [hF]
      exact kr_i B hP hS rfl rfl dX3_ears_61
    · refine lv_aload_n hx hb dX3_ears_23 rfl (lv_at hl 0 rfl) ?_
      refine va_get (D := D) (ci := 3) (v := .ref (ad 10)) (C := RX3) (T := TX3) (N := 7) hx hb hts iw_X3_ears_3 hown hK hP 0 rfl rfl 3 (by decide) (hts (.fieldLink RX3 30 "TownLisp" "said" "LTownLisp$Readings;") (by decide +kernel)) (fun _ h9 => h9) rfl dX3_ears_24 ?_
      refine lv_aload_n hx hb dX3_ears_27 rfl (lv_at hl 0 rfl) ?_
      refine va_get (D := D) (ci := 3) (v := .ref (ad 2)) (C := RX3) (T := TX3) (N := 7) hx hb hts iw_X3_ears_3 hown hK hP 0 rfl rfl 1 (by decide) (hts (.fieldLink RX3 20 "TownLisp" "now" "LTownLisp$Town;") (by decide +kernel)) (fun _ h9 => h9) rfl dX3_ears_28 ?_
      refine lv_iload_n hx hb dX3_ears_31 rfl (lv_at hl 1 rfl) ?_
      refine lv_aload_n hx hb dX3_ears_32 rfl (lv_at hl 0 rfl) ?_
      refine va_get (D := D) (ci := 3) (v := .ref (ad 2)) (C := RX3) (T := TX3) (N := 7) hx hb hts iw_X3_ears_3 hown hK hP 0 rfl rfl 1 (by decide) (hts (.fieldLink RX3 20 "TownLisp" "now" "LTownLisp$Town;") (by decide +kernel)) (fun _ h9 => h9) rfl dX3_ears_33 ?_
      refine va_get (D := D) (ci := 2) (v := .ref (ad 3)) (C := RX2) (T := TX2) (N := 6) hx hb hts iw_X3_ears_2 hown hK hP 2 rfl rfl 0 (by decide) (hts (.fieldLink RX3 73 "TownLisp$Town" "kind" "[I") (by decide +kernel)) (fun _ h9 => h9) rfl dX3_ears_36 ?_
      refine lv_iload_n hx hb dX3_ears_39 rfl (lv_at hl 1 rfl) ?_
      refine va_iald hx hb hK hP 3 0 rfl rfl (hp) dX3_ears_40 ?_
      refine lv_iload_n hx hb dX3_ears_41 rfl (lv_at hl 3 rfl) ?_
      refine kc_V (As := [.ref (ad 2), .int x1, .int ((T_kind (X_now X)) x1.toNatClampNeg), .int x3]) (rest := []) B (c_X0_areSo l D cI cO tF (ad 10) (ad 11) (ad 12) (ad 13) (ad 2) (ad 3) (ad 4) (ad 5) (X_said X) (X_now X) x1 ((T_kind (X_now X)) x1.toNatClampNeg) x3 (hr) (hq)) (cwV 4 hts gX3_ears_X0_areSo rfl rfl rfl (by decide +kernel) ⟨Nat.le_of_ble_eq_true rfl, Nat.le_of_ble_eq_true rfl⟩) hP hD hS [10, 11, 12, 13, 2, 3, 4, 5] wX_subRN (by decide) (w' := wX ad cI cO X) (wX_sameRN) rfl 10 0 rfl rfl rfl rfl hl.1 rfl (Nat.le_of_ble_eq_true rfl) dX3_ears_42 ⟨Nat.zero_le _, Nat.zero_le _⟩ (fun H locs hP hD hS => ?_)
      have hD : va_D A (wX ad cI cO X) := hD
      refine lv_if_eq (tgt := 54) hx hb dX3_ears_45 (by decide) (fun c_45 => ?_) (fun c_45 => ?_)
      · refine lv_iinc (v := (x3 + (1 : Int32))) (lv' := [(3, .int (x3 + (1 : Int32))), (0, .ref (ad 0)), (1, .int x1), (2, .int x2)]) hx hb dX3_ears_54 hl (k := 3) rfl rfl (by decide) rfl (fun ls hl => ?_)
        refine lv_goto (tgt := 17) hx hb dX3_ears_57 (by decide) ?_
        have hF : fL_X3_ears_17 X x1 (k + 1) x2 x3 = fL_X3_ears_17 X x1 k x2 (x3 + (1 : Int32)) := by rw [fL_X3_ears_17, if_neg c_20, if_pos c_45]
        rw [hF]
        exact ih x2 (x3 + (1 : Int32)) (lq_pre (n := 9) (by decide) h0 c_20) (lq_mu (n := 9) (by decide) h0 c_20 hk) _ _ hP hD hS ls (lv_sub hl [1, 2, 3, 0] rfl)
      · refine lv_iload_n hx hb dX3_ears_48 rfl (lv_at hl 2 rfl) ?_
        refine lv_iconst (v := (1 : Int32)) hx hb dX3_ears_49 (by decide) ?_
        refine lv_iload_n hx hb dX3_ears_50 rfl (lv_at hl 3 rfl) ?_
        refine lv_ishl hx hb dX3_ears_51 ?_
        refine lv_ior hx hb dX3_ears_52 ?_
        refine lv_istore_n (lv' := [(2, .int (x2 ||| ((1 : Int32) <<< (x3 &&& 31)))), (0, .ref (ad 0)), (1, .int x1), (3, .int x3)]) hx hb dX3_ears_53 rfl hl (by decide) rfl (fun ls hl => ?_)
        refine lv_iinc (v := (x3 + (1 : Int32))) (lv' := [(3, .int (x3 + (1 : Int32))), (2, .int (x2 ||| ((1 : Int32) <<< (x3 &&& 31)))), (0, .ref (ad 0)), (1, .int x1)]) hx hb dX3_ears_54 hl (k := 3) rfl rfl (by decide) rfl (fun ls hl => ?_)
        refine lv_goto (tgt := 17) hx hb dX3_ears_57 (by decide) ?_
        have hF : fL_X3_ears_17 X x1 (k + 1) x2 x3 = fL_X3_ears_17 X x1 k (x2 ||| ((1 : Int32) <<< (x3 &&& 31))) (x3 + (1 : Int32)) := by rw [fL_X3_ears_17, if_neg c_20, if_neg c_45]
        rw [hF]
        exact ih (x2 ||| ((1 : Int32) <<< (x3 &&& 31))) (x3 + (1 : Int32)) (lq_pre (n := 9) (by decide) h0 c_20) (lq_mu (n := 9) (by decide) h0 c_20 hk) _ _ hP hD hS ls (lv_sub hl [2, 3, 1, 0] rfl)
set_option maxHeartbeats 4000000 in
set_option maxRecDepth 100000 in
theorem c_X3_ears (l : Launch) (D : va_G) (cI cO : ClassId) (tF : Nat) (ad : Nat → Nat) (X : XS) (x1 : Int32) (hn : (T_count (X_now X)).toInt ≤ 6) (hr : (R_count (X_said X)).toInt ≤ 8) (hq : ∀ r : Nat, (r : Int) < (R_count (X_said X)).toInt → vp_in (R_person (X_said X) r) 6) : Ct l yX3_ears wsX3_ears ({ frames := 3, cells := 0, slots := 0, locals := 74 }) D cI cO tF [.ref (ad 0), .int x1] (wX ad cI cO X) (some (.int (f_X3_ears X x1))) (wX ad cI cO X) := by
  refine Ct.of (cc := cX3_ears) (maxL := 4) (ret := (some .int)) (own := RX3) (by decide) rfl rfl (Nat.le_of_ble_eq_true rfl) ?_
  intro p e s m args below meth c A ls B hP hD hS hl
  obtain ⟨hx, hb, hret, hml, hts, hown, hlocks, hE, hA⟩ := id B
  have hK := hE.1
  have hl : lv_has ls 4 [(0, .ref (ad 0)), (1, .int x1)] := hl
  refine lv_aload_n hx hb dX3_ears_0 rfl (lv_at hl 0 rfl) ?_
  refine va_get (D := D) (ci := 3) (v := .ref (ad 2)) (C := RX3) (T := TX3) (N := 7) hx hb hts iw_X3_ears_3 hown hK hP 0 rfl rfl 1 (by decide) (hts (.fieldLink RX3 20 "TownLisp" "now" "LTownLisp$Town;") (by decide +kernel)) (fun _ h9 => h9) rfl dX3_ears_1 ?_
  refine lv_iload_n hx hb dX3_ears_4 rfl (lv_at hl 1 rfl) ?_
  refine kc_V (As := [.int x1]) (rest := []) B (c_X2_has l D cI cO tF (ad 2) (ad 3) (ad 4) (ad 5) (X_now X) x1 ) (cwV 1 hts gX3_ears_X2_has rfl rfl rfl (by decide +kernel) ⟨Nat.le_of_ble_eq_true rfl, Nat.le_of_ble_eq_true rfl⟩) hP hD hS [2, 3, 4, 5] wX_subN (by decide) (w' := wX ad cI cO X) (wX_sameN) rfl 2 2 rfl rfl rfl rfl hl.1 rfl (Nat.le_of_ble_eq_true rfl) dX3_ears_5 ⟨Nat.zero_le _, Nat.zero_le _⟩ (fun H locs hP hD hS => ?_)
  have hD : va_D A (wX ad cI cO X) := hD
  refine lv_if_ne (tgt := 13) hx hb dX3_ears_8 (by decide) (fun c_8 => ?_) (fun c_8 => ?_)
  · refine lv_iconst (v := (0 : Int32)) hx hb dX3_ears_13 (by decide) ?_
    refine lv_istore_n (lv' := [(2, .int (0 : Int32)), (0, .ref (ad 0)), (1, .int x1)]) hx hb dX3_ears_14 rfl hl (by decide) rfl (fun ls hl => ?_)
    refine lv_iconst (v := (1 : Int32)) hx hb dX3_ears_15 (by decide) ?_
    refine lv_istore_n (lv' := [(3, .int (1 : Int32)), (2, .int (0 : Int32)), (0, .ref (ad 0)), (1, .int x1)]) hx hb dX3_ears_16 rfl hl (by decide) rfl (fun ls hl => ?_)
    have hF : f_X3_ears X x1 = fL_X3_ears_17 X x1 11 (0 : Int32) (1 : Int32) := by rw [f_X3_ears, if_neg c_8]
    rw [hF]
    exact L_X3_ears_17 l D cI cO tF ad X x1 hn hr hq B (has_in hn c_8) 11 (0 : Int32) (1 : Int32) (by decide) (by decide) _ _ hP hD hS ls (lv_sub hl [2, 3, 1, 0] rfl)
  · refine lv_iconst (v := (-1 : Int32)) hx hb dX3_ears_11 (by decide) ?_
    have hF : f_X3_ears X x1 = (-1 : Int32) := by rw [f_X3_ears, if_pos c_8]
    rw [hF]
    exact kr_i B hP hS rfl rfl dX3_ears_12
def fL_X3_kinds_17 (X : XS) (x1 : Int32) : Nat → Int32 → Int32 → Int32
  | 0, _, _ => 0
  | k + 1, x2, x3 => (if (2 : Int32) < x3 then x2 else (if (f_X0_areSo (X_said X) (X_now X) x1 x3 ((T_thick (X_now X)) x1.toNatClampNeg)) = 0 then fL_X3_kinds_17 X x1 k x2 (x3 + (1 : Int32)) else fL_X3_kinds_17 X x1 k (x2 ||| ((1 : Int32) <<< (x3 &&& 31))) (x3 + (1 : Int32))))
def f_X3_kinds (X : XS) (x1 : Int32) : Int32 := (if (f_X2_has (X_now X) x1) = 0 then (-1 : Int32) else fL_X3_kinds_17 X x1 4 (0 : Int32) (0 : Int32))
theorem iw_X3_kinds_2 : ∀ w ∈ wsX20, w ∈ wsX3_kinds := fun _ h => List.mem_cons_of_mem _ (List.mem_append_left _ (List.mem_append_right _ h))
theorem iw_X3_kinds_3 : ∀ w ∈ wsX30, w ∈ wsX3_kinds := fun _ h => List.mem_cons_of_mem _ (List.mem_append_left _ (List.mem_append_left _ (List.mem_append_right _ h)))
set_option maxHeartbeats 4000000 in
set_option maxRecDepth 100000 in
theorem L_X3_kinds_17 {p : Program} (l : Launch) {e : Env} {s : State} {m : MethodId} {args : Array Value} {below : List Frame} {meth : Method} {c : Code} {A : Nat → Prop} (D : va_G) (cI cO : ClassId) (tF : Nat) (ad : Nat → Nat) (X : XS) (x1 : Int32) (hn : (T_count (X_now X)).toInt ≤ 6) (hr : (R_count (X_said X)).toInt ≤ 8) (hq : ∀ r : Nat, (r : Int) < (R_count (X_said X)).toInt → vp_in (R_person (X_said X) r) 6) (B : Bx p s m args meth c cX3_kinds 4 (some .int) wsX3_kinds RX3 D cI cO tF A) (hp : vp_in x1 6) : ∀ (k : Nat) (x2 : Int32) (x3 : Int32), (0 ≤ x3.toInt) → ((2 + 1 - x3.toInt).toNat < k) → ∀ (H : Heap) (locs : List Loc), va_P D vwCl (wX ad cI cO X) H → va_D A (wX ad cI cO X) → va_S A s.heap H locs → ∀ ls : Array Slot, lv_has ls 4 [(0, .ref (ad 0)), (1, .int x1), (2, .int x2), (3, .int x3)] → W p l e ({ frames := 3, cells := 0, slots := 0, locals := 74 }) s m args below meth c H locs 0 0 (MQ below (Qp D (some (.int (fL_X3_kinds_17 X x1 k x2 x3))) (wX ad cI cO X) A) args s 0 0 A) (F0 m 17 ls []) := by
  obtain ⟨hx, hb, hret, hml, hts, hown, hlocks, hE, hA⟩ := id B
  have hK := hE.1
  intro k
  induction k with
  | zero =>
    intro x2 x3 h0 hk
    exact absurd hk (Nat.not_lt_zero _)
  | succ k ih =>
    intro x2 x3 h0 hk H locs hP hD hS ls hl
    refine lv_iload_n hx hb dX3_kinds_17 rfl (lv_at hl 3 rfl) ?_
    refine lv_iconst (v := (2 : Int32)) hx hb dX3_kinds_18 (by decide) ?_
    refine lv_icmp_gt (tgt := 59) hx hb dX3_kinds_19 (by decide) (fun c_19 => ?_) (fun c_19 => ?_)
    · refine lv_iload_n hx hb dX3_kinds_59 rfl (lv_at hl 2 rfl) ?_
      have hF : fL_X3_kinds_17 X x1 (k + 1) x2 x3 = x2 := by rw [fL_X3_kinds_17, if_pos c_19]
      rw [hF]
      exact kr_i B hP hS rfl rfl dX3_kinds_60
    · refine lv_aload_n hx hb dX3_kinds_22 rfl (lv_at hl 0 rfl) ?_
      refine va_get (D := D) (ci := 3) (v := .ref (ad 10)) (C := RX3) (T := TX3) (N := 7) hx hb hts iw_X3_kinds_3 hown hK hP 0 rfl rfl 3 (by decide) (hts (.fieldLink RX3 30 "TownLisp" "said" "LTownLisp$Readings;") (by decide +kernel)) (fun _ h9 => h9) rfl dX3_kinds_23 ?_
      refine lv_aload_n hx hb dX3_kinds_26 rfl (lv_at hl 0 rfl) ?_
      refine va_get (D := D) (ci := 3) (v := .ref (ad 2)) (C := RX3) (T := TX3) (N := 7) hx hb hts iw_X3_kinds_3 hown hK hP 0 rfl rfl 1 (by decide) (hts (.fieldLink RX3 20 "TownLisp" "now" "LTownLisp$Town;") (by decide +kernel)) (fun _ h9 => h9) rfl dX3_kinds_27 ?_
      refine lv_iload_n hx hb dX3_kinds_30 rfl (lv_at hl 1 rfl) ?_
      refine lv_iload_n hx hb dX3_kinds_31 rfl (lv_at hl 3 rfl) ?_
      refine lv_aload_n hx hb dX3_kinds_32 rfl (lv_at hl 0 rfl) ?_
      refine va_get (D := D) (ci := 3) (v := .ref (ad 2)) (C := RX3) (T := TX3) (N := 7) hx hb hts iw_X3_kinds_3 hown hK hP 0 rfl rfl 1 (by decide) (hts (.fieldLink RX3 20 "TownLisp" "now" "LTownLisp$Town;") (by decide +kernel)) (fun _ h9 => h9) rfl dX3_kinds_33 ?_
      refine va_get (D := D) (ci := 2) (v := .ref (ad 5)) (C := RX2) (T := TX2) (N := 6) hx hb hts iw_X3_kinds_2 hown hK hP 2 rfl rfl 2 (by decide) (hts (.fieldLink RX3 80 "TownLisp$Town" "thick" "[I") (by decide +kernel)) (fun _ h9 => h9) rfl dX3_kinds_36 ?_
      refine lv_iload_n hx hb dX3_kinds_39 rfl (lv_at hl 1 rfl) ?_
      refine va_iald hx hb hK hP 5 0 rfl rfl (hp) dX3_kinds_40 ?_
      refine kc_V (As := [.ref (ad 2), .int x1, .int x3, .int ((T_thick (X_now X)) x1.toNatClampNeg)]) (rest := []) B (c_X0_areSo l D cI cO tF (ad 10) (ad 11) (ad 12) (ad 13) (ad 2) (ad 3) (ad 4) (ad 5) (X_said X) (X_now X) x1 x3 ((T_thick (X_now X)) x1.toNatClampNeg) (hr) (hq)) (cwV 4 hts gX3_kinds_X0_areSo rfl rfl rfl (by decide +kernel) ⟨Nat.le_of_ble_eq_true rfl, Nat.le_of_ble_eq_true rfl⟩) hP hD hS [10, 11, 12, 13, 2, 3, 4, 5] wX_subRN (by decide) (w' := wX ad cI cO X) (wX_sameRN) rfl 10 0 rfl rfl rfl rfl hl.1 rfl (Nat.le_of_ble_eq_true rfl) dX3_kinds_41 ⟨Nat.zero_le _, Nat.zero_le _⟩ (fun H locs hP hD hS => ?_)
      have hD : va_D A (wX ad cI cO X) := hD
      refine lv_if_eq (tgt := 53) hx hb dX3_kinds_44 (by decide) (fun c_44 => ?_) (fun c_44 => ?_)
      · refine lv_iinc (v := (x3 + (1 : Int32))) (lv' := [(3, .int (x3 + (1 : Int32))), (0, .ref (ad 0)), (1, .int x1), (2, .int x2)]) hx hb dX3_kinds_53 hl (k := 3) rfl rfl (by decide) rfl (fun ls hl => ?_)
        refine lv_goto (tgt := 17) hx hb dX3_kinds_56 (by decide) ?_
        have hF : fL_X3_kinds_17 X x1 (k + 1) x2 x3 = fL_X3_kinds_17 X x1 k x2 (x3 + (1 : Int32)) := by rw [fL_X3_kinds_17, if_neg c_19, if_pos c_44]
        rw [hF]
        exact ih x2 (x3 + (1 : Int32)) (lq_pre (n := 2) (by decide) h0 c_19) (lq_mu (n := 2) (by decide) h0 c_19 hk) _ _ hP hD hS ls (lv_sub hl [1, 2, 3, 0] rfl)
      · refine lv_iload_n hx hb dX3_kinds_47 rfl (lv_at hl 2 rfl) ?_
        refine lv_iconst (v := (1 : Int32)) hx hb dX3_kinds_48 (by decide) ?_
        refine lv_iload_n hx hb dX3_kinds_49 rfl (lv_at hl 3 rfl) ?_
        refine lv_ishl hx hb dX3_kinds_50 ?_
        refine lv_ior hx hb dX3_kinds_51 ?_
        refine lv_istore_n (lv' := [(2, .int (x2 ||| ((1 : Int32) <<< (x3 &&& 31)))), (0, .ref (ad 0)), (1, .int x1), (3, .int x3)]) hx hb dX3_kinds_52 rfl hl (by decide) rfl (fun ls hl => ?_)
        refine lv_iinc (v := (x3 + (1 : Int32))) (lv' := [(3, .int (x3 + (1 : Int32))), (2, .int (x2 ||| ((1 : Int32) <<< (x3 &&& 31)))), (0, .ref (ad 0)), (1, .int x1)]) hx hb dX3_kinds_53 hl (k := 3) rfl rfl (by decide) rfl (fun ls hl => ?_)
        refine lv_goto (tgt := 17) hx hb dX3_kinds_56 (by decide) ?_
        have hF : fL_X3_kinds_17 X x1 (k + 1) x2 x3 = fL_X3_kinds_17 X x1 k (x2 ||| ((1 : Int32) <<< (x3 &&& 31))) (x3 + (1 : Int32)) := by rw [fL_X3_kinds_17, if_neg c_19, if_neg c_44]
        rw [hF]
        exact ih (x2 ||| ((1 : Int32) <<< (x3 &&& 31))) (x3 + (1 : Int32)) (lq_pre (n := 2) (by decide) h0 c_19) (lq_mu (n := 2) (by decide) h0 c_19 hk) _ _ hP hD hS ls (lv_sub hl [2, 3, 1, 0] rfl)
set_option maxHeartbeats 4000000 in
set_option maxRecDepth 100000 in
theorem c_X3_kinds (l : Launch) (D : va_G) (cI cO : ClassId) (tF : Nat) (ad : Nat → Nat) (X : XS) (x1 : Int32) (hn : (T_count (X_now X)).toInt ≤ 6) (hr : (R_count (X_said X)).toInt ≤ 8) (hq : ∀ r : Nat, (r : Int) < (R_count (X_said X)).toInt → vp_in (R_person (X_said X) r) 6) : Ct l yX3_kinds wsX3_kinds ({ frames := 3, cells := 0, slots := 0, locals := 74 }) D cI cO tF [.ref (ad 0), .int x1] (wX ad cI cO X) (some (.int (f_X3_kinds X x1))) (wX ad cI cO X) := by
  refine Ct.of (cc := cX3_kinds) (maxL := 4) (ret := (some .int)) (own := RX3) (by decide) rfl rfl (Nat.le_of_ble_eq_true rfl) ?_
  intro p e s m args below meth c A ls B hP hD hS hl
  obtain ⟨hx, hb, hret, hml, hts, hown, hlocks, hE, hA⟩ := id B
  have hK := hE.1
  have hl : lv_has ls 4 [(0, .ref (ad 0)), (1, .int x1)] := hl
  refine lv_aload_n hx hb dX3_kinds_0 rfl (lv_at hl 0 rfl) ?_
  refine va_get (D := D) (ci := 3) (v := .ref (ad 2)) (C := RX3) (T := TX3) (N := 7) hx hb hts iw_X3_kinds_3 hown hK hP 0 rfl rfl 1 (by decide) (hts (.fieldLink RX3 20 "TownLisp" "now" "LTownLisp$Town;") (by decide +kernel)) (fun _ h9 => h9) rfl dX3_kinds_1 ?_
  refine lv_iload_n hx hb dX3_kinds_4 rfl (lv_at hl 1 rfl) ?_
  refine kc_V (As := [.int x1]) (rest := []) B (c_X2_has l D cI cO tF (ad 2) (ad 3) (ad 4) (ad 5) (X_now X) x1 ) (cwV 1 hts gX3_kinds_X2_has rfl rfl rfl (by decide +kernel) ⟨Nat.le_of_ble_eq_true rfl, Nat.le_of_ble_eq_true rfl⟩) hP hD hS [2, 3, 4, 5] wX_subN (by decide) (w' := wX ad cI cO X) (wX_sameN) rfl 2 2 rfl rfl rfl rfl hl.1 rfl (Nat.le_of_ble_eq_true rfl) dX3_kinds_5 ⟨Nat.zero_le _, Nat.zero_le _⟩ (fun H locs hP hD hS => ?_)
  have hD : va_D A (wX ad cI cO X) := hD
  refine lv_if_ne (tgt := 13) hx hb dX3_kinds_8 (by decide) (fun c_8 => ?_) (fun c_8 => ?_)
  · refine lv_iconst (v := (0 : Int32)) hx hb dX3_kinds_13 (by decide) ?_
    refine lv_istore_n (lv' := [(2, .int (0 : Int32)), (0, .ref (ad 0)), (1, .int x1)]) hx hb dX3_kinds_14 rfl hl (by decide) rfl (fun ls hl => ?_)
    refine lv_iconst (v := (0 : Int32)) hx hb dX3_kinds_15 (by decide) ?_
    refine lv_istore_n (lv' := [(3, .int (0 : Int32)), (2, .int (0 : Int32)), (0, .ref (ad 0)), (1, .int x1)]) hx hb dX3_kinds_16 rfl hl (by decide) rfl (fun ls hl => ?_)
    have hF : f_X3_kinds X x1 = fL_X3_kinds_17 X x1 4 (0 : Int32) (0 : Int32) := by rw [f_X3_kinds, if_neg c_8]
    rw [hF]
    exact L_X3_kinds_17 l D cI cO tF ad X x1 hn hr hq B (has_in hn c_8) 4 (0 : Int32) (0 : Int32) (by decide) (by decide) _ _ hP hD hS ls (lv_sub hl [2, 3, 1, 0] rfl)
  · refine lv_iconst (v := (-1 : Int32)) hx hb dX3_kinds_11 (by decide) ?_
    have hF : f_X3_kinds X x1 = (-1 : Int32) := by rw [f_X3_kinds, if_pos c_8]
    rw [hF]
    exact kr_i B hP hS rfl rfl dX3_kinds_12
def fL_X3_odds_39 (X : XS) (x1 : Int32) (x2 : Int32) (x3 : Int32) : Nat → Int32 → Int32 → Int64
  | 0, _, _ => 0
  | k + 1, x4, x5 => (if (f_X2_allSets (X_now X)) ≤ x5 then (f_X3_shareOf x4 (f_X2_allSets (X_now X)) x3) else (if (f_X3_isMember x5 x1) = 0 then fL_X3_odds_39 X x1 x2 x3 k x4 (x5 + (1 : Int32)) else (if (f_X3_says ((T_kind (X_now X)) x1.toNatClampNeg) (f_X2_partsBehindDay (X_now X) x5 x1) ((T_thick (X_now X)) x1.toNatClampNeg)) < x2 then fL_X3_odds_39 X x1 x2 x3 k x4 (x5 + (1 : Int32)) else fL_X3_odds_39 X x1 x2 x3 k (x4 + (1 : Int32)) (x5 + (1 : Int32)))))
def f_X3_odds (X : XS) (x1 : Int32) (x2 : Int32) (x3 : Int32) : Int64 := (if (f_X2_has (X_now X) x1) = 0 then (-9223372036854775808 : Int64) else (if x2 < 0 then (-9223372036854775808 : Int64) else (if (600 : Int32) < x2 then (-9223372036854775808 : Int64) else (if (f_X3_isHalfOfShare x3) = 0 then (-9223372036854775808 : Int64) else fL_X3_odds_39 X x1 x2 x3 ((f_X2_allSets (X_now X)).toInt.toNat + 1) (0 : Int32) (0 : Int32)))))
theorem iw_X3_odds_2 : ∀ w ∈ wsX20, w ∈ wsX3_odds := fun _ h => List.mem_cons_of_mem _ (List.mem_append_right _ h)
theorem iw_X3_odds_3 : ∀ w ∈ wsX30, w ∈ wsX3_odds := fun _ h => List.mem_cons_of_mem _ (List.mem_append_left _ (List.mem_append_right _ h))
set_option maxHeartbeats 4000000 in
set_option maxRecDepth 100000 in
theorem L_X3_odds_39 {p : Program} (l : Launch) {e : Env} {s : State} {m : MethodId} {args : Array Value} {below : List Frame} {meth : Method} {c : Code} {A : Nat → Prop} (D : va_G) (cI cO : ClassId) (tF : Nat) (ad : Nat → Nat) (X : XS) (x1 : Int32) (x2 : Int32) (x3 : Int32) (hn : (T_count (X_now X)).toInt ≤ 6) (B : Bx p s m args meth c cX3_odds 6 (some .long) wsX3_odds RX3 D cI cO tF A) (hp : vp_in x1 6) : ∀ (k : Nat) (x4 : Int32) (x5 : Int32), (0 ≤ x5.toInt) → (((f_X2_allSets (X_now X)).toInt - x5.toInt).toNat < k) → ∀ (H : Heap) (locs : List Loc), va_P D vwCl (wX ad cI cO X) H → va_D A (wX ad cI cO X) → va_S A s.heap H locs → ∀ ls : Array Slot, lv_has ls 6 [(0, .ref (ad 0)), (1, .int x1), (2, .int x2), (3, .int x3), (4, .int x4), (5, .int x5)] → W p l e ({ frames := 3, cells := 0, slots := 0, locals := 69 }) s m args below meth c H locs 0 0 (MQ below (Qp D (some (.long (fL_X3_odds_39 X x1 x2 x3 k x4 x5))) (wX ad cI cO X) A) args s 0 0 A) (F0 m 39 ls []) := by
  obtain ⟨hx, hb, hret, hml, hts, hown, hlocks, hE, hA⟩ := id B
  have hK := hE.1
  intro k
  induction k with
  | zero =>
    intro x4 x5 h0 hk
    exact absurd hk (Nat.not_lt_zero _)
  | succ k ih =>
    intro x4 x5 h0 hk H locs hP hD hS ls hl
    refine lv_iload hx hb dX3_odds_39 (lv_at hl 5 rfl) ?_
    refine lv_aload_n hx hb dX3_odds_41 rfl (lv_at hl 0 rfl) ?_
    refine va_get (D := D) (ci := 3) (v := .ref (ad 2)) (C := RX3) (T := TX3) (N := 7) hx hb hts iw_X3_odds_3 hown hK hP 0 rfl rfl 1 (by decide) (hts (.fieldLink RX3 20 "TownLisp" "now" "LTownLisp$Town;") (by decide +kernel)) (fun _ h9 => h9) rfl dX3_odds_42 ?_
    refine kc_V (As := []) (rest := [.int x5]) B (c_X2_allSets l D cI cO tF (ad 2) (ad 3) (ad 4) (ad 5) (X_now X) ) (cwV 0 hts gX3_odds_X2_allSets rfl rfl rfl (by decide +kernel) ⟨Nat.le_of_ble_eq_true rfl, Nat.le_of_ble_eq_true rfl⟩) hP hD hS [2, 3, 4, 5] wX_subN (by decide) (w' := wX ad cI cO X) (wX_sameN) rfl 2 2 rfl rfl rfl rfl hl.1 rfl (Nat.le_of_ble_eq_true rfl) dX3_odds_45 ⟨Nat.zero_le _, Nat.zero_le _⟩ (fun H locs hP hD hS => ?_)
    have hD : va_D A (wX ad cI cO X) := hD
    refine lv_icmp_ge (tgt := 104) hx hb dX3_odds_48 (by decide) (fun c_48 => ?_) (fun c_48 => ?_)
    · refine lv_iload hx hb dX3_odds_104 (lv_at hl 4 rfl) ?_
      refine lv_aload_n hx hb dX3_odds_106 rfl (lv_at hl 0 rfl) ?_
      refine va_get (D := D) (ci := 3) (v := .ref (ad 2)) (C := RX3) (T := TX3) (N := 7) hx hb hts iw_X3_odds_3 hown hK hP 0 rfl rfl 1 (by decide) (hts (.fieldLink RX3 20 "TownLisp" "now" "LTownLisp$Town;") (by decide +kernel)) (fun _ h9 => h9) rfl dX3_odds_107 ?_
      refine kc_V (As := []) (rest := [.int x4]) B (c_X2_allSets l D cI cO tF (ad 2) (ad 3) (ad 4) (ad 5) (X_now X) ) (cwV 0 hts gX3_odds_X2_allSets rfl rfl rfl (by decide +kernel) ⟨Nat.le_of_ble_eq_true rfl, Nat.le_of_ble_eq_true rfl⟩) hP hD hS [2, 3, 4, 5] wX_subN (by decide) (w' := wX ad cI cO X) (wX_sameN) rfl 2 2 rfl rfl rfl rfl hl.1 rfl (Nat.le_of_ble_eq_true rfl) dX3_odds_110 ⟨Nat.zero_le _, Nat.zero_le _⟩ (fun H locs hP hD hS => ?_)
      have hD : va_D A (wX ad cI cO X) := hD
      refine lv_iload_n hx hb dX3_odds_113 rfl (lv_at hl 3 rfl) ?_
      refine kc_S (As := [.int x4, .int (f_X2_allSets (X_now X)), .int x3]) (rest := []) B (c_X3_shareOf l D cI cO tF x4 (f_X2_allSets (X_now X)) x3 ) (va_cwS 3 hts gX3_odds_X3_shareOf rfl rfl rfl (by decide +kernel) ⟨Nat.le_of_ble_eq_true rfl, Nat.le_of_ble_eq_true rfl⟩) hP hD hS [] rfl (by decide) (w' := wX ad cI cO X) rfl rfl rfl hl.1 rfl (Nat.le_of_ble_eq_true rfl) dX3_odds_114 ⟨Nat.zero_le _, Nat.zero_le _⟩ (fun H locs hP hD hS => ?_)
      have hD : va_D A (wX ad cI cO X) := hD
      have hF : fL_X3_odds_39 X x1 x2 x3 (k + 1) x4 x5 = (f_X3_shareOf x4 (f_X2_allSets (X_now X)) x3) := by rw [fL_X3_odds_39, if_pos c_48]
      rw [hF]
      exact kr_l B hP hS rfl rfl dX3_odds_117
    · refine lv_iload hx hb dX3_odds_51 (lv_at hl 5 rfl) ?_
      refine lv_iload_n hx hb dX3_odds_53 rfl (lv_at hl 1 rfl) ?_
      refine kc_S (As := [.int x5, .int x1]) (rest := []) B (c_X3_isMember l D cI cO tF x5 x1 ) (va_cwS 2 hts gX3_odds_X3_isMember rfl rfl rfl (by decide +kernel) ⟨Nat.le_of_ble_eq_true rfl, Nat.le_of_ble_eq_true rfl⟩) hP hD hS [] rfl (by decide) (w' := wX ad cI cO X) rfl rfl rfl hl.1 rfl (Nat.le_of_ble_eq_true rfl) dX3_odds_54 ⟨Nat.zero_le _, Nat.zero_le _⟩ (fun H locs hP hD hS => ?_)
      have hD : va_D A (wX ad cI cO X) := hD
      refine lv_if_eq (tgt := 98) hx hb dX3_odds_57 (by decide) (fun c_57 => ?_) (fun c_57 => ?_)
      · refine lv_iinc (v := (x5 + (1 : Int32))) (lv' := [(5, .int (x5 + (1 : Int32))), (0, .ref (ad 0)), (1, .int x1), (2, .int x2), (3, .int x3), (4, .int x4)]) hx hb dX3_odds_98 hl (k := 5) rfl rfl (by decide) rfl (fun ls hl => ?_)
        refine lv_goto (tgt := 39) hx hb dX3_odds_101 (by decide) ?_
        have hF : fL_X3_odds_39 X x1 x2 x3 (k + 1) x4 x5 = fL_X3_odds_39 X x1 x2 x3 k x4 (x5 + (1 : Int32)) := by rw [fL_X3_odds_39, if_neg c_48, if_pos c_57]
        rw [hF]
        exact ih x4 (x5 + (1 : Int32)) (lp_pre h0 c_48) (lp_mu h0 c_48 hk) _ _ hP hD hS ls (lv_sub hl [1, 2, 3, 4, 5, 0] rfl)
      · refine lv_aload_n hx hb dX3_odds_60 rfl (lv_at hl 0 rfl) ?_
        refine va_get (D := D) (ci := 3) (v := .ref (ad 2)) (C := RX3) (T := TX3) (N := 7) hx hb hts iw_X3_odds_3 hown hK hP 0 rfl rfl 1 (by decide) (hts (.fieldLink RX3 20 "TownLisp" "now" "LTownLisp$Town;") (by decide +kernel)) (fun _ h9 => h9) rfl dX3_odds_61 ?_
        refine va_get (D := D) (ci := 2) (v := .ref (ad 3)) (C := RX2) (T := TX2) (N := 6) hx hb hts iw_X3_odds_2 hown hK hP 2 rfl rfl 0 (by decide) (hts (.fieldLink RX3 73 "TownLisp$Town" "kind" "[I") (by decide +kernel)) (fun _ h9 => h9) rfl dX3_odds_64 ?_
        refine lv_iload_n hx hb dX3_odds_67 rfl (lv_at hl 1 rfl) ?_
        refine va_iald hx hb hK hP 3 0 rfl rfl (hp) dX3_odds_68 ?_
        refine lv_aload_n hx hb dX3_odds_69 rfl (lv_at hl 0 rfl) ?_
        refine va_get (D := D) (ci := 3) (v := .ref (ad 2)) (C := RX3) (T := TX3) (N := 7) hx hb hts iw_X3_odds_3 hown hK hP 0 rfl rfl 1 (by decide) (hts (.fieldLink RX3 20 "TownLisp" "now" "LTownLisp$Town;") (by decide +kernel)) (fun _ h9 => h9) rfl dX3_odds_70 ?_
        refine lv_iload hx hb dX3_odds_73 (lv_at hl 5 rfl) ?_
        refine lv_iload_n hx hb dX3_odds_75 rfl (lv_at hl 1 rfl) ?_
        refine kc_V (As := [.int x5, .int x1]) (rest := [.int ((T_kind (X_now X)) x1.toNatClampNeg)]) B (c_X2_partsBehindDay l D cI cO tF (ad 2) (ad 3) (ad 4) (ad 5) (X_now X) x5 x1 (hn) (hp)) (cwV 2 hts gX3_odds_X2_partsBehindDay rfl rfl rfl (by decide +kernel) ⟨Nat.le_of_ble_eq_true rfl, Nat.le_of_ble_eq_true rfl⟩) hP hD hS [2, 3, 4, 5] wX_subN (by decide) (w' := wX ad cI cO X) (wX_sameN) rfl 2 2 rfl rfl rfl rfl hl.1 rfl (Nat.le_of_ble_eq_true rfl) dX3_odds_76 ⟨Nat.zero_le _, Nat.zero_le _⟩ (fun H locs hP hD hS => ?_)
        have hD : va_D A (wX ad cI cO X) := hD
        refine lv_aload_n hx hb dX3_odds_79 rfl (lv_at hl 0 rfl) ?_
        refine va_get (D := D) (ci := 3) (v := .ref (ad 2)) (C := RX3) (T := TX3) (N := 7) hx hb hts iw_X3_odds_3 hown hK hP 0 rfl rfl 1 (by decide) (hts (.fieldLink RX3 20 "TownLisp" "now" "LTownLisp$Town;") (by decide +kernel)) (fun _ h9 => h9) rfl dX3_odds_80 ?_
        refine va_get (D := D) (ci := 2) (v := .ref (ad 5)) (C := RX2) (T := TX2) (N := 6) hx hb hts iw_X3_odds_2 hown hK hP 2 rfl rfl 2 (by decide) (hts (.fieldLink RX3 80 "TownLisp$Town" "thick" "[I") (by decide +kernel)) (fun _ h9 => h9) rfl dX3_odds_83 ?_
        refine lv_iload_n hx hb dX3_odds_86 rfl (lv_at hl 1 rfl) ?_
        refine va_iald hx hb hK hP 5 0 rfl rfl (hp) dX3_odds_87 ?_
        refine kc_S (As := [.int ((T_kind (X_now X)) x1.toNatClampNeg), .int (f_X2_partsBehindDay (X_now X) x5 x1), .int ((T_thick (X_now X)) x1.toNatClampNeg)]) (rest := []) B (c_X3_says l D cI cO tF ((T_kind (X_now X)) x1.toNatClampNeg) (f_X2_partsBehindDay (X_now X) x5 x1) ((T_thick (X_now X)) x1.toNatClampNeg) ) (va_cwS 3 hts gX3_odds_X3_says rfl rfl rfl (by decide +kernel) ⟨Nat.le_of_ble_eq_true rfl, Nat.le_of_ble_eq_true rfl⟩) hP hD hS [] rfl (by decide) (w' := wX ad cI cO X) rfl rfl rfl hl.1 rfl (Nat.le_of_ble_eq_true rfl) dX3_odds_88 ⟨Nat.zero_le _, Nat.zero_le _⟩ (fun H locs hP hD hS => ?_)
        have hD : va_D A (wX ad cI cO X) := hD
        refine lv_iload_n hx hb dX3_odds_91 rfl (lv_at hl 2 rfl) ?_
        refine lv_icmp_lt (tgt := 98) hx hb dX3_odds_92 (by decide) (fun c_92 => ?_) (fun c_92 => ?_)
        · refine lv_iinc (v := (x5 + (1 : Int32))) (lv' := [(5, .int (x5 + (1 : Int32))), (0, .ref (ad 0)), (1, .int x1), (2, .int x2), (3, .int x3), (4, .int x4)]) hx hb dX3_odds_98 hl (k := 5) rfl rfl (by decide) rfl (fun ls hl => ?_)
          refine lv_goto (tgt := 39) hx hb dX3_odds_101 (by decide) ?_
          have hF : fL_X3_odds_39 X x1 x2 x3 (k + 1) x4 x5 = fL_X3_odds_39 X x1 x2 x3 k x4 (x5 + (1 : Int32)) := by rw [fL_X3_odds_39, if_neg c_48, if_neg c_57, if_pos c_92]
          rw [hF]
          exact ih x4 (x5 + (1 : Int32)) (lp_pre h0 c_48) (lp_mu h0 c_48 hk) _ _ hP hD hS ls (lv_sub hl [1, 2, 3, 4, 5, 0] rfl)
        · refine lv_iinc (v := (x4 + (1 : Int32))) (lv' := [(4, .int (x4 + (1 : Int32))), (0, .ref (ad 0)), (1, .int x1), (2, .int x2), (3, .int x3), (5, .int x5)]) hx hb dX3_odds_95 hl (k := 4) rfl rfl (by decide) rfl (fun ls hl => ?_)
          refine lv_iinc (v := (x5 + (1 : Int32))) (lv' := [(5, .int (x5 + (1 : Int32))), (4, .int (x4 + (1 : Int32))), (0, .ref (ad 0)), (1, .int x1), (2, .int x2), (3, .int x3)]) hx hb dX3_odds_98 hl (k := 5) rfl rfl (by decide) rfl (fun ls hl => ?_)
          refine lv_goto (tgt := 39) hx hb dX3_odds_101 (by decide) ?_
          have hF : fL_X3_odds_39 X x1 x2 x3 (k + 1) x4 x5 = fL_X3_odds_39 X x1 x2 x3 k (x4 + (1 : Int32)) (x5 + (1 : Int32)) := by rw [fL_X3_odds_39, if_neg c_48, if_neg c_57, if_neg c_92]
          rw [hF]
          exact ih (x4 + (1 : Int32)) (x5 + (1 : Int32)) (lp_pre h0 c_48) (lp_mu h0 c_48 hk) _ _ hP hD hS ls (lv_sub hl [2, 3, 4, 5, 1, 0] rfl)
set_option maxHeartbeats 4000000 in
set_option maxRecDepth 100000 in
theorem c_X3_odds (l : Launch) (D : va_G) (cI cO : ClassId) (tF : Nat) (ad : Nat → Nat) (X : XS) (x1 : Int32) (x2 : Int32) (x3 : Int32) (hn : (T_count (X_now X)).toInt ≤ 6) : Ct l yX3_odds wsX3_odds ({ frames := 3, cells := 0, slots := 0, locals := 69 }) D cI cO tF [.ref (ad 0), .int x1, .int x2, .int x3] (wX ad cI cO X) (some (.long (f_X3_odds X x1 x2 x3))) (wX ad cI cO X) := by
  refine Ct.of (cc := cX3_odds) (maxL := 6) (ret := (some .long)) (own := RX3) (by decide) rfl rfl (Nat.le_of_ble_eq_true rfl) ?_
  intro p e s m args below meth c A ls B hP hD hS hl
  obtain ⟨hx, hb, hret, hml, hts, hown, hlocks, hE, hA⟩ := id B
  have hK := hE.1
  have hl : lv_has ls 6 [(0, .ref (ad 0)), (1, .int x1), (2, .int x2), (3, .int x3)] := hl
  refine lv_aload_n hx hb dX3_odds_0 rfl (lv_at hl 0 rfl) ?_
  refine va_get (D := D) (ci := 3) (v := .ref (ad 2)) (C := RX3) (T := TX3) (N := 7) hx hb hts iw_X3_odds_3 hown hK hP 0 rfl rfl 1 (by decide) (hts (.fieldLink RX3 20 "TownLisp" "now" "LTownLisp$Town;") (by decide +kernel)) (fun _ h9 => h9) rfl dX3_odds_1 ?_
  refine lv_iload_n hx hb dX3_odds_4 rfl (lv_at hl 1 rfl) ?_
  refine kc_V (As := [.int x1]) (rest := []) B (c_X2_has l D cI cO tF (ad 2) (ad 3) (ad 4) (ad 5) (X_now X) x1 ) (cwV 1 hts gX3_odds_X2_has rfl rfl rfl (by decide +kernel) ⟨Nat.le_of_ble_eq_true rfl, Nat.le_of_ble_eq_true rfl⟩) hP hD hS [2, 3, 4, 5] wX_subN (by decide) (w' := wX ad cI cO X) (wX_sameN) rfl 2 2 rfl rfl rfl rfl hl.1 rfl (Nat.le_of_ble_eq_true rfl) dX3_odds_5 ⟨Nat.zero_le _, Nat.zero_le _⟩ (fun H locs hP hD hS => ?_)
  have hD : va_D A (wX ad cI cO X) := hD
  refine lv_if_eq (tgt := 29) hx hb dX3_odds_8 (by decide) (fun c_8 => ?_) (fun c_8 => ?_)
  · refine lv_ldc2 hx hb hown (hts (.constantLong RX3 140 (-9223372036854775808 : Int64)) (by decide +kernel)) dX3_odds_29 ?_
    have hF : f_X3_odds X x1 x2 x3 = (-9223372036854775808 : Int64) := by rw [f_X3_odds, if_pos c_8]
    rw [hF]
    exact kr_l B hP hS rfl rfl dX3_odds_32
  · refine lv_iload_n hx hb dX3_odds_11 rfl (lv_at hl 2 rfl) ?_
    refine lv_if_lt (tgt := 29) hx hb dX3_odds_12 (by decide) (fun c_12 => ?_) (fun c_12 => ?_)
    · refine lv_ldc2 hx hb hown (hts (.constantLong RX3 140 (-9223372036854775808 : Int64)) (by decide +kernel)) dX3_odds_29 ?_
      have hF : f_X3_odds X x1 x2 x3 = (-9223372036854775808 : Int64) := by rw [f_X3_odds, if_neg c_8, if_pos c_12]
      rw [hF]
      exact kr_l B hP hS rfl rfl dX3_odds_32
    · refine lv_iload_n hx hb dX3_odds_15 rfl (lv_at hl 2 rfl) ?_
      refine lv_sipush (v := (600 : Int32)) hx hb dX3_odds_16 (by decide) ?_
      refine lv_icmp_gt (tgt := 29) hx hb dX3_odds_19 (by decide) (fun c_19 => ?_) (fun c_19 => ?_)
      · refine lv_ldc2 hx hb hown (hts (.constantLong RX3 140 (-9223372036854775808 : Int64)) (by decide +kernel)) dX3_odds_29 ?_
        have hF : f_X3_odds X x1 x2 x3 = (-9223372036854775808 : Int64) := by rw [f_X3_odds, if_neg c_8, if_neg c_12, if_pos c_19]
        rw [hF]
        exact kr_l B hP hS rfl rfl dX3_odds_32
      · refine lv_iload_n hx hb dX3_odds_22 rfl (lv_at hl 3 rfl) ?_
        refine kc_S (As := [.int x3]) (rest := []) B (c_X3_isHalfOfShare l D cI cO tF x3 ) (va_cwS 1 hts gX3_odds_X3_isHalfOfShare rfl rfl rfl (by decide +kernel) ⟨Nat.le_of_ble_eq_true rfl, Nat.le_of_ble_eq_true rfl⟩) hP hD hS [] rfl (by decide) (w' := wX ad cI cO X) rfl rfl rfl hl.1 rfl (Nat.le_of_ble_eq_true rfl) dX3_odds_23 ⟨Nat.zero_le _, Nat.zero_le _⟩ (fun H locs hP hD hS => ?_)
        have hD : va_D A (wX ad cI cO X) := hD
        refine lv_if_ne (tgt := 33) hx hb dX3_odds_26 (by decide) (fun c_26 => ?_) (fun c_26 => ?_)
        · refine lv_iconst (v := (0 : Int32)) hx hb dX3_odds_33 (by decide) ?_
          refine lv_istore (lv' := [(4, .int (0 : Int32)), (0, .ref (ad 0)), (1, .int x1), (2, .int x2), (3, .int x3)]) hx hb dX3_odds_34 hl (by decide) rfl (fun ls hl => ?_)
          refine lv_iconst (v := (0 : Int32)) hx hb dX3_odds_36 (by decide) ?_
          refine lv_istore (lv' := [(5, .int (0 : Int32)), (4, .int (0 : Int32)), (0, .ref (ad 0)), (1, .int x1), (2, .int x2), (3, .int x3)]) hx hb dX3_odds_37 hl (by decide) rfl (fun ls hl => ?_)
          have hF : f_X3_odds X x1 x2 x3 = fL_X3_odds_39 X x1 x2 x3 ((f_X2_allSets (X_now X)).toInt.toNat + 1) (0 : Int32) (0 : Int32) := by rw [f_X3_odds, if_neg c_8, if_neg c_12, if_neg c_19, if_neg c_26]
          rw [hF]
          exact L_X3_odds_39 l D cI cO tF ad X x1 x2 x3 hn B (has_in hn c_8) ((f_X2_allSets (X_now X)).toInt.toNat + 1) (0 : Int32) (0 : Int32) (Int.le_refl _) (by rw [show (0 : Int32).toInt = 0 from rfl]; omega) _ _ hP hD hS ls (lv_sub hl [2, 3, 4, 5, 1, 0] rfl)
        · refine lv_ldc2 hx hb hown (hts (.constantLong RX3 140 (-9223372036854775808 : Int64)) (by decide +kernel)) dX3_odds_29 ?_
          have hF : f_X3_odds X x1 x2 x3 = (-9223372036854775808 : Int64) := by rw [f_X3_odds, if_neg c_8, if_neg c_12, if_neg c_19, if_pos c_26]
          rw [hF]
          exact kr_l B hP hS rfl rfl dX3_odds_32
