def f_X3_sheet (X : XS) (x1 : Int32) (x2 : Int32) (x3 : Int32) : Int32 × XS := (if (0 : Int32) ≤ x1 ∧ x1 < (4 : Int32) then (if (f_X3_isLane x2) = 0 then ((-2 : Int32), (X_latestFault' X (0 : Int32))) else (if x3 ≤ (60 : Int32) then (if 0 ≤ x3 then ((1 : Int32), (X_sheets' (X_latestFault' X (0 : Int32)) (va_up (X_sheets X) x1.toNatClampNeg (f_X1_renew ((X_sheets X) x1.toNatClampNeg) x2 x3)))) else ((f_X3_faulty (X_latestFault' X (0 : Int32)) (4 : Int32)).1, (f_X3_faulty (X_latestFault' X (0 : Int32)) (4 : Int32)).2)) else ((-2 : Int32), (X_latestFault' X (0 : Int32))))) else ((-1 : Int32), (X_latestFault' X (0 : Int32))))
theorem iw_X3_sheet_3 : ∀ w ∈ wsX30, w ∈ wsX3_sheet := fun _ h => List.mem_cons_of_mem _ (List.mem_append_left _ (List.mem_append_right _ h))
set_option maxHeartbeats 4000000 in
set_option maxRecDepth 100000 in
theorem c_X3_sheet (l : Launch) (D : va_G) (cI cO : ClassId) (tF : Nat) (ad : Nat → Nat) (X : XS) (x1 : Int32) (x2 : Int32) (x3 : Int32) : Ct l yX3_sheet wsX3_sheet ({ frames := 2, cells := 0, slots := 0, locals := 47 }) D cI cO tF [.ref (ad 0), .int x1, .int x2, .int x3] (wX ad cI cO X) (some (.int ((f_X3_sheet X x1 x2 x3).1))) (wX ad cI cO ((f_X3_sheet X x1 x2 x3).2)) := by
  refine Ct.of (cc := cX3_sheet) (maxL := 5) (ret := (some .int)) (own := RX3) (by decide) rfl rfl (Nat.le_of_ble_eq_true rfl) ?_
  intro p e s m args below meth c A ls B hP hD hS hl
  obtain ⟨hx, hb, hret, hml, hts, hown, hlocks, hE, hA⟩ := id B
  have hK := hE.1
  have hl : lv_has ls 5 [(0, .ref (ad 0)), (1, .int x1), (2, .int x2), (3, .int x3)] := hl
  refine lv_aload_n hx hb dX3_sheet_0 rfl (lv_at hl 0 rfl) ?_
  refine lv_iconst (v := (0 : Int32)) hx hb dX3_sheet_1 (by decide) ?_
  refine va_put (D := D) (ci := 3) (v := .int (0 : Int32)) (ty := .int) (C := RX3) (T := TX3) (N := 7) hx hb hts iw_X3_sheet_3 tyX3 tyX3_ok nmX3 hown hK hP hD hS 0 rfl rfl 6 (by decide) (hts (.fieldLink RX3 35 "TownLisp" "latestFault" "I") (by decide +kernel)) (fun _ h9 => h9) rfl (by decide +kernel) rfl rfl (Nat.le_of_ble_eq_true rfl) dX3_sheet_2 (fun H locs hP hD hS => ?_)
  have hP : va_P D vwCl (wX ad cI cO (X_latestFault' X (0 : Int32))) H := hP
  have hD : va_D A (wX ad cI cO (X_latestFault' X (0 : Int32))) := hD
  refine lv_aload_n hx hb dX3_sheet_5 rfl (lv_at hl 0 rfl) ?_
  refine lv_iload_n hx hb dX3_sheet_6 rfl (lv_at hl 1 rfl) ?_
  by_cases c_7 : (0 : Int32) ≤ x1 ∧ x1 < (4 : Int32)
  · have hj_7 : x1.toNatClampNeg < 4 := sh_j c_7
    refine kc_V (As := [.int x1]) (rest := []) B (c_X3_sheetAt_some l D cI cO tF ad (X_latestFault' X (0 : Int32)) x1 c_7) (cwV 1 hts gX3_sheet_X3_sheetAt rfl rfl rfl (by decide +kernel) ⟨Nat.le_of_ble_eq_true rfl, Nat.le_of_ble_eq_true rfl⟩) hP hD hS [0, 1, 2, 3, 4, 5, 6, 7, 8, 9, 10, 11, 12, 13, 14, 15, 16, 17, 18, 19, 20, 21] wX_subA (by decide) (w' := wX ad cI cO (X_latestFault' X (0 : Int32))) (wX_setA _) (wX_fst _) 0 3 rfl rfl rfl rfl hl.1 rfl (Nat.le_of_ble_eq_true rfl) dX3_sheet_7 ⟨Nat.zero_le _, Nat.zero_le _⟩ (fun H locs hP hD hS => ?_)
    have hD : va_D A (wX ad cI cO (X_latestFault' X (0 : Int32))) := hD
    refine lv_astore (lv' := [(4, .ref (ad (14 + 2 * x1.toNatClampNeg))), (0, .ref (ad 0)), (1, .int x1), (2, .int x2), (3, .int x3)]) hx hb dX3_sheet_10 hl (by decide) rfl (fun ls hl => ?_)
    refine lv_aload hx hb dX3_sheet_12 (lv_at hl 0 rfl) ?_
    refine lv_ifnonnull (tgt := 19) hx hb dX3_sheet_14 (by decide) ?_
    refine lv_iload_n hx hb dX3_sheet_19 rfl (lv_at hl 3 rfl) ?_
    refine kc_S (As := [.int x2]) (rest := []) B (c_X3_isLane l D cI cO tF x2 ) (va_cwS 1 hts gX3_sheet_X3_isLane rfl rfl rfl (by decide +kernel) ⟨Nat.le_of_ble_eq_true rfl, Nat.le_of_ble_eq_true rfl⟩) hP hD hS [] rfl (by decide) (w' := wX ad cI cO (X_latestFault' X (0 : Int32))) rfl rfl rfl hl.1 rfl (Nat.le_of_ble_eq_true rfl) dX3_sheet_20 ⟨Nat.zero_le _, Nat.zero_le _⟩ (fun H locs hP hD hS => ?_)
    have hD : va_D A (wX ad cI cO (X_latestFault' X (0 : Int32))) := hD
    refine lv_if_eq (tgt := 32) hx hb dX3_sheet_23 (by decide) (fun c_23 => ?_) (fun c_23 => ?_)
    · refine lv_bipush (v := (-2 : Int32)) hx hb dX3_sheet_32 (by decide) ?_
      have hF : f_X3_sheet X x1 x2 x3 = ((-2 : Int32), (X_latestFault' X (0 : Int32))) := by rw [f_X3_sheet, if_pos c_7, if_pos c_23]
      rw [hF]
      exact kr_i B hP hS rfl rfl dX3_sheet_34
    · refine lv_iload_n hx hb dX3_sheet_26 rfl (lv_at hl 4 rfl) ?_
      refine lv_bipush (v := (60 : Int32)) hx hb dX3_sheet_27 (by decide) ?_
      refine lv_icmp_le (tgt := 35) hx hb dX3_sheet_29 (by decide) (fun c_29 => ?_) (fun c_29 => ?_)
      · refine lv_iload_n hx hb dX3_sheet_35 rfl (lv_at hl 4 rfl) ?_
        refine lv_if_ge (tgt := 45) hx hb dX3_sheet_36 (by decide) (fun c_36 => ?_) (fun c_36 => ?_)
        · refine lv_aload hx hb dX3_sheet_45 (lv_at hl 0 rfl) ?_
          refine lv_iload_n hx hb dX3_sheet_47 rfl (lv_at hl 3 rfl) ?_
          refine lv_iload_n hx hb dX3_sheet_48 rfl (lv_at hl 4 rfl) ?_
          refine kc_V (As := [.int x2, .int x3]) (rest := []) B (c_X1_renew l D cI cO tF (ad (14 + 2 * x1.toNatClampNeg)) (ad (15 + 2 * x1.toNatClampNeg)) ((X_sheets X) x1.toNatClampNeg) x2 x3 ) (cwV 2 hts gX3_sheet_X1_renew rfl rfl rfl (by decide +kernel) ⟨Nat.le_of_ble_eq_true rfl, Nat.le_of_ble_eq_true rfl⟩) hP hD hS [14 + 2 * x1.toNatClampNeg, 15 + 2 * x1.toNatClampNeg] (wX_subC hj_7) (nd_s _) (w' := wX ad cI cO (X_sheets' (X_latestFault' X (0 : Int32)) (va_up (X_sheets X) x1.toNatClampNeg (f_X1_renew ((X_sheets X) x1.toNatClampNeg) x2 x3)))) (wX_setS hj_7 _) rfl (14 + 2 * x1.toNatClampNeg) 1 rfl (wX_sheet hj_7) rfl rfl hl.1 rfl (Nat.le_of_ble_eq_true rfl) dX3_sheet_49 ⟨Nat.zero_le _, Nat.zero_le _⟩ (fun H locs hP hD hS => ?_)
          have hD : va_D A (wX ad cI cO (X_sheets' (X_latestFault' X (0 : Int32)) (va_up (X_sheets X) x1.toNatClampNeg (f_X1_renew ((X_sheets X) x1.toNatClampNeg) x2 x3)))) := hD
          refine lv_iconst (v := (1 : Int32)) hx hb dX3_sheet_52 (by decide) ?_
          have hF : f_X3_sheet X x1 x2 x3 = ((1 : Int32), (X_sheets' (X_latestFault' X (0 : Int32)) (va_up (X_sheets X) x1.toNatClampNeg (f_X1_renew ((X_sheets X) x1.toNatClampNeg) x2 x3)))) := by rw [f_X3_sheet, if_pos c_7, if_neg c_23, if_pos c_29, if_pos c_36]
          rw [hF]
          exact kr_i B hP hS rfl rfl dX3_sheet_53
        · refine lv_aload_n hx hb dX3_sheet_39 rfl (lv_at hl 1 rfl) ?_
          refine lv_iconst (v := (4 : Int32)) hx hb dX3_sheet_40 (by decide) ?_
          refine kc_V (As := [.int (4 : Int32)]) (rest := []) B (c_X3_faulty l D cI cO tF ad (X_latestFault' X (0 : Int32)) (4 : Int32) ) (cwV 1 hts gX3_sheet_X3_faulty rfl rfl rfl (by decide +kernel) ⟨Nat.le_of_ble_eq_true rfl, Nat.le_of_ble_eq_true rfl⟩) hP hD hS [0, 1, 2, 3, 4, 5, 6, 7, 8, 9, 10, 11, 12, 13, 14, 15, 16, 17, 18, 19, 20, 21] wX_subA (by decide) (w' := wX ad cI cO ((f_X3_faulty (X_latestFault' X (0 : Int32)) (4 : Int32)).2)) (wX_setA _) (wX_fst _) 0 3 rfl rfl rfl rfl hl.1 rfl (Nat.le_of_ble_eq_true rfl) dX3_sheet_41 ⟨Nat.zero_le _, Nat.zero_le _⟩ (fun H locs hP hD hS => ?_)
          have hD : va_D A (wX ad cI cO ((f_X3_faulty (X_latestFault' X (0 : Int32)) (4 : Int32)).2)) := hD
          have hF : f_X3_sheet X x1 x2 x3 = ((f_X3_faulty (X_latestFault' X (0 : Int32)) (4 : Int32)).1, (f_X3_faulty (X_latestFault' X (0 : Int32)) (4 : Int32)).2) := by rw [f_X3_sheet, if_pos c_7, if_neg c_23, if_pos c_29, if_neg c_36]
          rw [hF]
          exact kr_i B hP hS rfl rfl dX3_sheet_44
      · refine lv_bipush (v := (-2 : Int32)) hx hb dX3_sheet_32 (by decide) ?_
        have hF : f_X3_sheet X x1 x2 x3 = ((-2 : Int32), (X_latestFault' X (0 : Int32))) := by rw [f_X3_sheet, if_pos c_7, if_neg c_23, if_neg c_29]
        rw [hF]
        exact kr_i B hP hS rfl rfl dX3_sheet_34
  · refine kc_V (As := [.int x1]) (rest := []) B (c_X3_sheetAt_none l D cI cO tF ad (X_latestFault' X (0 : Int32)) x1 c_7) (cwV 1 hts gX3_sheet_X3_sheetAt rfl rfl rfl (by decide +kernel) ⟨Nat.le_of_ble_eq_true rfl, Nat.le_of_ble_eq_true rfl⟩) hP hD hS [0, 1, 2, 3, 4, 5, 6, 7, 8, 9, 10, 11, 12, 13, 14, 15, 16, 17, 18, 19, 20, 21] wX_subA (by decide) (w' := wX ad cI cO (X_latestFault' X (0 : Int32))) (wX_setA _) (wX_fst _) 0 3 rfl rfl rfl rfl hl.1 rfl (Nat.le_of_ble_eq_true rfl) dX3_sheet_7 ⟨Nat.zero_le _, Nat.zero_le _⟩ (fun H locs hP hD hS => ?_)
    have hD : va_D A (wX ad cI cO (X_latestFault' X (0 : Int32))) := hD
    refine lv_astoreN (lv' := [(4, .null), (0, .ref (ad 0)), (1, .int x1), (2, .int x2), (3, .int x3)]) hx hb dX3_sheet_10 hl (by decide) rfl (fun ls hl => ?_)
    refine lv_aloadN hx hb dX3_sheet_12 (lv_at hl 0 rfl) ?_
    refine lv_ifnonnullN hx hb dX3_sheet_14 ?_
    refine lv_iconst (v := (-1 : Int32)) hx hb dX3_sheet_17 (by decide) ?_
    have hF : f_X3_sheet X x1 x2 x3 = ((-1 : Int32), (X_latestFault' X (0 : Int32))) := by rw [f_X3_sheet, if_neg c_7]
    rw [hF]
    exact kr_i B hP hS rfl rfl dX3_sheet_18
def f_X3_lose (X : XS) (x1 : Int32) : Int32 × XS := (if (0 : Int32) ≤ x1 ∧ x1 < (4 : Int32) then (if (S_held ((X_sheets X) x1.toNatClampNeg)) = 0 then ((0 : Int32), (X_sheets' X (va_up (X_sheets X) x1.toNatClampNeg (S_held' ((X_sheets X) x1.toNatClampNeg) (0 : Int32))))) else ((1 : Int32), (X_sheets' X (va_up (X_sheets X) x1.toNatClampNeg (S_held' ((X_sheets X) x1.toNatClampNeg) (0 : Int32)))))) else ((-1 : Int32), X))
theorem iw_X3_lose_1 : ∀ w ∈ wsX10, w ∈ wsX3_lose := fun _ h => List.mem_cons_of_mem _ (List.mem_append_left _ (List.mem_append_right _ h))
set_option maxHeartbeats 4000000 in
set_option maxRecDepth 100000 in
theorem c_X3_lose (l : Launch) (D : va_G) (cI cO : ClassId) (tF : Nat) (ad : Nat → Nat) (X : XS) (x1 : Int32) : Ct l yX3_lose wsX3_lose ({ frames := 1, cells := 0, slots := 0, locals := 21 }) D cI cO tF [.ref (ad 0), .int x1] (wX ad cI cO X) (some (.int ((f_X3_lose X x1).1))) (wX ad cI cO ((f_X3_lose X x1).2)) := by
  refine Ct.of (cc := cX3_lose) (maxL := 4) (ret := (some .int)) (own := RX3) (by decide) rfl rfl (Nat.le_of_ble_eq_true rfl) ?_
  intro p e s m args below meth c A ls B hP hD hS hl
  obtain ⟨hx, hb, hret, hml, hts, hown, hlocks, hE, hA⟩ := id B
  have hK := hE.1
  have hl : lv_has ls 4 [(0, .ref (ad 0)), (1, .int x1)] := hl
  refine lv_aload_n hx hb dX3_lose_0 rfl (lv_at hl 0 rfl) ?_
  refine lv_iload_n hx hb dX3_lose_1 rfl (lv_at hl 1 rfl) ?_
  by_cases c_2 : (0 : Int32) ≤ x1 ∧ x1 < (4 : Int32)
  · have hj_2 : x1.toNatClampNeg < 4 := sh_j c_2
    refine kc_V (As := [.int x1]) (rest := []) B (c_X3_sheetAt_some l D cI cO tF ad X x1 c_2) (cwV 1 hts gX3_lose_X3_sheetAt rfl rfl rfl (by decide +kernel) ⟨Nat.le_of_ble_eq_true rfl, Nat.le_of_ble_eq_true rfl⟩) hP hD hS [0, 1, 2, 3, 4, 5, 6, 7, 8, 9, 10, 11, 12, 13, 14, 15, 16, 17, 18, 19, 20, 21] wX_subA (by decide) (w' := wX ad cI cO X) (wX_setA _) (wX_fst _) 0 3 rfl rfl rfl rfl hl.1 rfl (Nat.le_of_ble_eq_true rfl) dX3_lose_2 ⟨Nat.zero_le _, Nat.zero_le _⟩ (fun H locs hP hD hS => ?_)
    have hD : va_D A (wX ad cI cO X) := hD
    refine lv_astore_n (lv' := [(2, .ref (ad (14 + 2 * x1.toNatClampNeg))), (0, .ref (ad 0)), (1, .int x1)]) hx hb dX3_lose_5 rfl hl (by decide) rfl (fun ls hl => ?_)
    refine lv_aload_n hx hb dX3_lose_6 rfl (lv_at hl 0 rfl) ?_
    refine lv_ifnonnull (tgt := 12) hx hb dX3_lose_7 (by decide) ?_
    refine lv_aload_n hx hb dX3_lose_12 rfl (lv_at hl 0 rfl) ?_
    refine va_get (D := D) (ci := 1) (v := .int (S_held ((X_sheets X) x1.toNatClampNeg))) (C := RX1) (T := TX1) (N := 4) hx hb hts iw_X3_lose_1 hown hK hP (14 + 2 * x1.toNatClampNeg) (wX_sheet hj_2) rfl 3 (by decide) (hts (.fieldLink RX3 169 "TownLisp$Sheet" "held" "Z") (by decide +kernel)) (fun _ h9 => h9) rfl dX3_lose_13 ?_
    refine lv_istore_n (lv' := [(3, .int (S_held ((X_sheets X) x1.toNatClampNeg))), (2, .ref (ad (14 + 2 * x1.toNatClampNeg))), (0, .ref (ad 0)), (1, .int x1)]) hx hb dX3_lose_16 rfl hl (by decide) rfl (fun ls hl => ?_)
    refine lv_aload_n hx hb dX3_lose_17 rfl (lv_at hl 1 rfl) ?_
    refine lv_iconst (v := (0 : Int32)) hx hb dX3_lose_18 (by decide) ?_
    refine va_put (D := D) (ci := 1) (v := .int (0 : Int32)) (ty := .boolean) (C := RX1) (T := TX1) (N := 4) hx hb hts iw_X3_lose_1 tyX1 tyX1_ok nmX1 hown hK hP hD hS (14 + 2 * x1.toNatClampNeg) (wX_sheet hj_2) rfl 3 (by decide) (hts (.fieldLink RX3 169 "TownLisp$Sheet" "held" "Z") (by decide +kernel)) (fun _ h9 => h9) rfl (by decide +kernel) rfl rfl (Nat.le_of_ble_eq_true rfl) dX3_lose_19 (fun H locs hP hD hS => ?_)
    have hP : va_P D vwCl (wX ad cI cO (X_sheets' X (va_up (X_sheets X) x1.toNatClampNeg (S_held' ((X_sheets X) x1.toNatClampNeg) (0 : Int32))))) H := wX_seth hj_2 _ ▸ hP
    have hD : va_D A (wX ad cI cO (X_sheets' X (va_up (X_sheets X) x1.toNatClampNeg (S_held' ((X_sheets X) x1.toNatClampNeg) (0 : Int32))))) := wX_seth hj_2 _ ▸ hD
    refine lv_iload_n hx hb dX3_lose_22 rfl (lv_at hl 0 rfl) ?_
    refine lv_if_eq (tgt := 30) hx hb dX3_lose_23 (by decide) (fun c_23 => ?_) (fun c_23 => ?_)
    · refine lv_iconst (v := (0 : Int32)) hx hb dX3_lose_30 (by decide) ?_
      have hF : f_X3_lose X x1 = ((0 : Int32), (X_sheets' X (va_up (X_sheets X) x1.toNatClampNeg (S_held' ((X_sheets X) x1.toNatClampNeg) (0 : Int32))))) := by rw [f_X3_lose, if_pos c_2, if_pos c_23]
      rw [hF]
      exact kr_i B hP hS rfl rfl dX3_lose_31
    · refine lv_iconst (v := (1 : Int32)) hx hb dX3_lose_26 (by decide) ?_
      refine lv_goto (tgt := 31) hx hb dX3_lose_27 (by decide) ?_
      have hF : f_X3_lose X x1 = ((1 : Int32), (X_sheets' X (va_up (X_sheets X) x1.toNatClampNeg (S_held' ((X_sheets X) x1.toNatClampNeg) (0 : Int32))))) := by rw [f_X3_lose, if_pos c_2, if_neg c_23]
      rw [hF]
      exact kr_i B hP hS rfl rfl dX3_lose_31
  · refine kc_V (As := [.int x1]) (rest := []) B (c_X3_sheetAt_none l D cI cO tF ad X x1 c_2) (cwV 1 hts gX3_lose_X3_sheetAt rfl rfl rfl (by decide +kernel) ⟨Nat.le_of_ble_eq_true rfl, Nat.le_of_ble_eq_true rfl⟩) hP hD hS [0, 1, 2, 3, 4, 5, 6, 7, 8, 9, 10, 11, 12, 13, 14, 15, 16, 17, 18, 19, 20, 21] wX_subA (by decide) (w' := wX ad cI cO X) (wX_setA _) (wX_fst _) 0 3 rfl rfl rfl rfl hl.1 rfl (Nat.le_of_ble_eq_true rfl) dX3_lose_2 ⟨Nat.zero_le _, Nat.zero_le _⟩ (fun H locs hP hD hS => ?_)
    have hD : va_D A (wX ad cI cO X) := hD
    refine lv_astore_nN (lv' := [(2, .null), (0, .ref (ad 0)), (1, .int x1)]) hx hb dX3_lose_5 rfl hl (by decide) rfl (fun ls hl => ?_)
    refine lv_aload_nN hx hb dX3_lose_6 rfl (lv_at hl 0 rfl) ?_
    refine lv_ifnonnullN hx hb dX3_lose_7 ?_
    refine lv_iconst (v := (-1 : Int32)) hx hb dX3_lose_10 (by decide) ?_
    have hF : f_X3_lose X x1 = ((-1 : Int32), X) := by rw [f_X3_lose, if_neg c_2]
    rw [hF]
    exact kr_i B hP hS rfl rfl dX3_lose_11
def f_X3_put (X : XS) (x1 : Int32) (x2 : Int32) (x3 : Int32) : Int32 × XS := (if (0 : Int32) ≤ x1 ∧ x1 < (4 : Int32) then (if (S_held ((X_sheets X) x1.toNatClampNeg)) = 0 then ((f_X3_faulty (X_latestFault' X (0 : Int32)) (1 : Int32)).1, (f_X3_faulty (X_latestFault' X (0 : Int32)) (1 : Int32)).2) else (if (f_X1_spans ((X_sheets X) x1.toNatClampNeg) x2 (1 : Int32)) = 0 then ((f_X3_faulty (X_latestFault' X (0 : Int32)) (3 : Int32)).1, (f_X3_faulty (X_latestFault' X (0 : Int32)) (3 : Int32)).2) else ((1 : Int32), (X_sheets' (X_latestFault' X (0 : Int32)) (va_up (X_sheets X) x1.toNatClampNeg (S_cells' ((X_sheets X) x1.toNatClampNeg) (upd (S_cells ((X_sheets X) x1.toNatClampNeg)) x2.toNatClampNeg (f_X1_cut ((X_sheets X) x1.toNatClampNeg) x3)))))))) else ((-1 : Int32), (X_latestFault' X (0 : Int32))))
theorem iw_X3_put_1 : ∀ w ∈ wsX10, w ∈ wsX3_put := fun _ h => List.mem_cons_of_mem _ (List.mem_append_right _ h)
theorem iw_X3_put_3 : ∀ w ∈ wsX30, w ∈ wsX3_put := fun _ h => List.mem_cons_of_mem _ (List.mem_append_left _ (List.mem_append_right _ h))
set_option maxHeartbeats 4000000 in
set_option maxRecDepth 100000 in
theorem c_X3_put (l : Launch) (D : va_G) (cI cO : ClassId) (tF : Nat) (ad : Nat → Nat) (X : XS) (x1 : Int32) (x2 : Int32) (x3 : Int32) (hL : ∀ j : Nat, j < 4 → (S_length (X_sheets X j)).toInt ≤ 60) : Ct l yX3_put wsX3_put ({ frames := 1, cells := 0, slots := 0, locals := 22 }) D cI cO tF [.ref (ad 0), .int x1, .int x2, .int x3] (wX ad cI cO X) (some (.int ((f_X3_put X x1 x2 x3).1))) (wX ad cI cO ((f_X3_put X x1 x2 x3).2)) := by
  refine Ct.of (cc := cX3_put) (maxL := 5) (ret := (some .int)) (own := RX3) (by decide) rfl rfl (Nat.le_of_ble_eq_true rfl) ?_
  intro p e s m args below meth c A ls B hP hD hS hl
  obtain ⟨hx, hb, hret, hml, hts, hown, hlocks, hE, hA⟩ := id B
  have hK := hE.1
  have hl : lv_has ls 5 [(0, .ref (ad 0)), (1, .int x1), (2, .int x2), (3, .int x3)] := hl
  refine lv_aload_n hx hb dX3_put_0 rfl (lv_at hl 0 rfl) ?_
  refine lv_iconst (v := (0 : Int32)) hx hb dX3_put_1 (by decide) ?_
  refine va_put (D := D) (ci := 3) (v := .int (0 : Int32)) (ty := .int) (C := RX3) (T := TX3) (N := 7) hx hb hts iw_X3_put_3 tyX3 tyX3_ok nmX3 hown hK hP hD hS 0 rfl rfl 6 (by decide) (hts (.fieldLink RX3 35 "TownLisp" "latestFault" "I") (by decide +kernel)) (fun _ h9 => h9) rfl (by decide +kernel) rfl rfl (Nat.le_of_ble_eq_true rfl) dX3_put_2 (fun H locs hP hD hS => ?_)
  have hP : va_P D vwCl (wX ad cI cO (X_latestFault' X (0 : Int32))) H := hP
  have hD : va_D A (wX ad cI cO (X_latestFault' X (0 : Int32))) := hD
  refine lv_aload_n hx hb dX3_put_5 rfl (lv_at hl 0 rfl) ?_
  refine lv_iload_n hx hb dX3_put_6 rfl (lv_at hl 1 rfl) ?_
  by_cases c_7 : (0 : Int32) ≤ x1 ∧ x1 < (4 : Int32)
  · have hj_7 : x1.toNatClampNeg < 4 := sh_j c_7
    refine kc_V (As := [.int x1]) (rest := []) B (c_X3_sheetAt_some l D cI cO tF ad (X_latestFault' X (0 : Int32)) x1 c_7) (cwV 1 hts gX3_put_X3_sheetAt rfl rfl rfl (by decide +kernel) ⟨Nat.le_of_ble_eq_true rfl, Nat.le_of_ble_eq_true rfl⟩) hP hD hS [0, 1, 2, 3, 4, 5, 6, 7, 8, 9, 10, 11, 12, 13, 14, 15, 16, 17, 18, 19, 20, 21] wX_subA (by decide) (w' := wX ad cI cO (X_latestFault' X (0 : Int32))) (wX_setA _) (wX_fst _) 0 3 rfl rfl rfl rfl hl.1 rfl (Nat.le_of_ble_eq_true rfl) dX3_put_7 ⟨Nat.zero_le _, Nat.zero_le _⟩ (fun H locs hP hD hS => ?_)
    have hD : va_D A (wX ad cI cO (X_latestFault' X (0 : Int32))) := hD
    refine lv_astore (lv' := [(4, .ref (ad (14 + 2 * x1.toNatClampNeg))), (0, .ref (ad 0)), (1, .int x1), (2, .int x2), (3, .int x3)]) hx hb dX3_put_10 hl (by decide) rfl (fun ls hl => ?_)
    refine lv_aload hx hb dX3_put_12 (lv_at hl 0 rfl) ?_
    refine lv_ifnonnull (tgt := 19) hx hb dX3_put_14 (by decide) ?_
    refine lv_aload hx hb dX3_put_19 (lv_at hl 0 rfl) ?_
    refine va_get (D := D) (ci := 1) (v := .int (S_held ((X_sheets X) x1.toNatClampNeg))) (C := RX1) (T := TX1) (N := 4) hx hb hts iw_X3_put_1 hown hK hP (14 + 2 * x1.toNatClampNeg) (wX_sheet hj_7) rfl 3 (by decide) (hts (.fieldLink RX3 169 "TownLisp$Sheet" "held" "Z") (by decide +kernel)) (fun _ h9 => h9) rfl dX3_put_21 ?_
    refine lv_if_ne (tgt := 33) hx hb dX3_put_24 (by decide) (fun c_24 => ?_) (fun c_24 => ?_)
    · refine lv_aload hx hb dX3_put_33 (lv_at hl 0 rfl) ?_
      refine lv_iload_n hx hb dX3_put_35 rfl (lv_at hl 3 rfl) ?_
      refine lv_iconst (v := (1 : Int32)) hx hb dX3_put_36 (by decide) ?_
      refine kc_V (As := [.int x2, .int (1 : Int32)]) (rest := []) B (c_X1_spans l D cI cO tF (ad (14 + 2 * x1.toNatClampNeg)) (ad (15 + 2 * x1.toNatClampNeg)) ((X_sheets X) x1.toNatClampNeg) x2 (1 : Int32) ) (cwV 2 hts gX3_put_X1_spans rfl rfl rfl (by decide +kernel) ⟨Nat.le_of_ble_eq_true rfl, Nat.le_of_ble_eq_true rfl⟩) hP hD hS [14 + 2 * x1.toNatClampNeg, 15 + 2 * x1.toNatClampNeg] (wX_subC hj_7) (nd_s _) (w' := wX ad cI cO (X_latestFault' X (0 : Int32))) (wX_same hj_7) rfl (14 + 2 * x1.toNatClampNeg) 1 rfl (wX_sheet hj_7) rfl rfl hl.1 rfl (Nat.le_of_ble_eq_true rfl) dX3_put_37 ⟨Nat.zero_le _, Nat.zero_le _⟩ (fun H locs hP hD hS => ?_)
      have hD : va_D A (wX ad cI cO (X_latestFault' X (0 : Int32))) := hD
      refine lv_if_ne (tgt := 49) hx hb dX3_put_40 (by decide) (fun c_40 => ?_) (fun c_40 => ?_)
      · refine lv_aload hx hb dX3_put_49 (lv_at hl 0 rfl) ?_
        refine va_get (D := D) (ci := 1) (v := .ref (ad (15 + 2 * x1.toNatClampNeg))) (C := RX1) (T := TX1) (N := 4) hx hb hts iw_X3_put_1 hown hK hP (14 + 2 * x1.toNatClampNeg) (wX_sheet hj_7) rfl 0 (by decide) (hts (.fieldLink RX3 176 "TownLisp$Sheet" "cells" "[I") (by decide +kernel)) (fun _ h9 => h9) rfl dX3_put_51 ?_
        refine lv_iload_n hx hb dX3_put_54 rfl (lv_at hl 3 rfl) ?_
        refine lv_aload hx hb dX3_put_55 (lv_at hl 0 rfl) ?_
        refine lv_iload_n hx hb dX3_put_57 rfl (lv_at hl 4 rfl) ?_
        refine kc_V (As := [.int x3]) (rest := [.int x2, .ref (ad (15 + 2 * x1.toNatClampNeg))]) B (c_X1_cut l D cI cO tF (ad (14 + 2 * x1.toNatClampNeg)) (ad (15 + 2 * x1.toNatClampNeg)) ((X_sheets X) x1.toNatClampNeg) x3 ) (cwV 1 hts gX3_put_X1_cut rfl rfl rfl (by decide +kernel) ⟨Nat.le_of_ble_eq_true rfl, Nat.le_of_ble_eq_true rfl⟩) hP hD hS [14 + 2 * x1.toNatClampNeg, 15 + 2 * x1.toNatClampNeg] (wX_subC hj_7) (nd_s _) (w' := wX ad cI cO (X_latestFault' X (0 : Int32))) (wX_same hj_7) rfl (14 + 2 * x1.toNatClampNeg) 1 rfl (wX_sheet hj_7) rfl rfl hl.1 rfl (Nat.le_of_ble_eq_true rfl) dX3_put_58 ⟨Nat.zero_le _, Nat.zero_le _⟩ (fun H locs hP hD hS => ?_)
        have hD : va_D A (wX ad cI cO (X_latestFault' X (0 : Int32))) := hD
        refine va_iast hx hb hK hP hD hS (15 + 2 * x1.toNatClampNeg) 0 (wX_sheetc hj_7) rfl (sp_in c_40 (hL _ hj_7)) dX3_put_61 (fun H locs hP hD hS => ?_)
        have hP : va_P D vwCl (wX ad cI cO (X_sheets' (X_latestFault' X (0 : Int32)) (va_up (X_sheets X) x1.toNatClampNeg (S_cells' ((X_sheets X) x1.toNatClampNeg) (upd (S_cells ((X_sheets X) x1.toNatClampNeg)) x2.toNatClampNeg (f_X1_cut ((X_sheets X) x1.toNatClampNeg) x3)))))) H := wX_setc hj_7 _ ▸ hP
        have hD : va_D A (wX ad cI cO (X_sheets' (X_latestFault' X (0 : Int32)) (va_up (X_sheets X) x1.toNatClampNeg (S_cells' ((X_sheets X) x1.toNatClampNeg) (upd (S_cells ((X_sheets X) x1.toNatClampNeg)) x2.toNatClampNeg (f_X1_cut ((X_sheets X) x1.toNatClampNeg) x3)))))) := wX_setc hj_7 _ ▸ hD
        refine lv_iconst (v := (1 : Int32)) hx hb dX3_put_62 (by decide) ?_
        have hF : f_X3_put X x1 x2 x3 = ((1 : Int32), (X_sheets' (X_latestFault' X (0 : Int32)) (va_up (X_sheets X) x1.toNatClampNeg (S_cells' ((X_sheets X) x1.toNatClampNeg) (upd (S_cells ((X_sheets X) x1.toNatClampNeg)) x2.toNatClampNeg (f_X1_cut ((X_sheets X) x1.toNatClampNeg) x3)))))) := by rw [f_X3_put, if_pos c_7, if_neg c_24, if_neg c_40]
        rw [hF]
        exact kr_i B hP hS rfl rfl dX3_put_63
      · refine lv_aload_n hx hb dX3_put_43 rfl (lv_at hl 1 rfl) ?_
        refine lv_iconst (v := (3 : Int32)) hx hb dX3_put_44 (by decide) ?_
        refine kc_V (As := [.int (3 : Int32)]) (rest := []) B (c_X3_faulty l D cI cO tF ad (X_latestFault' X (0 : Int32)) (3 : Int32) ) (cwV 1 hts gX3_put_X3_faulty rfl rfl rfl (by decide +kernel) ⟨Nat.le_of_ble_eq_true rfl, Nat.le_of_ble_eq_true rfl⟩) hP hD hS [0, 1, 2, 3, 4, 5, 6, 7, 8, 9, 10, 11, 12, 13, 14, 15, 16, 17, 18, 19, 20, 21] wX_subA (by decide) (w' := wX ad cI cO ((f_X3_faulty (X_latestFault' X (0 : Int32)) (3 : Int32)).2)) (wX_setA _) (wX_fst _) 0 3 rfl rfl rfl rfl hl.1 rfl (Nat.le_of_ble_eq_true rfl) dX3_put_45 ⟨Nat.zero_le _, Nat.zero_le _⟩ (fun H locs hP hD hS => ?_)
        have hD : va_D A (wX ad cI cO ((f_X3_faulty (X_latestFault' X (0 : Int32)) (3 : Int32)).2)) := hD
        have hF : f_X3_put X x1 x2 x3 = ((f_X3_faulty (X_latestFault' X (0 : Int32)) (3 : Int32)).1, (f_X3_faulty (X_latestFault' X (0 : Int32)) (3 : Int32)).2) := by rw [f_X3_put, if_pos c_7, if_neg c_24, if_pos c_40]
        rw [hF]
        exact kr_i B hP hS rfl rfl dX3_put_48
    · refine lv_aload_n hx hb dX3_put_27 rfl (lv_at hl 1 rfl) ?_
      refine lv_iconst (v := (1 : Int32)) hx hb dX3_put_28 (by decide) ?_
      refine kc_V (As := [.int (1 : Int32)]) (rest := []) B (c_X3_faulty l D cI cO tF ad (X_latestFault' X (0 : Int32)) (1 : Int32) ) (cwV 1 hts gX3_put_X3_faulty rfl rfl rfl (by decide +kernel) ⟨Nat.le_of_ble_eq_true rfl, Nat.le_of_ble_eq_true rfl⟩) hP hD hS [0, 1, 2, 3, 4, 5, 6, 7, 8, 9, 10, 11, 12, 13, 14, 15, 16, 17, 18, 19, 20, 21] wX_subA (by decide) (w' := wX ad cI cO ((f_X3_faulty (X_latestFault' X (0 : Int32)) (1 : Int32)).2)) (wX_setA _) (wX_fst _) 0 3 rfl rfl rfl rfl hl.1 rfl (Nat.le_of_ble_eq_true rfl) dX3_put_29 ⟨Nat.zero_le _, Nat.zero_le _⟩ (fun H locs hP hD hS => ?_)
      have hD : va_D A (wX ad cI cO ((f_X3_faulty (X_latestFault' X (0 : Int32)) (1 : Int32)).2)) := hD
      have hF : f_X3_put X x1 x2 x3 = ((f_X3_faulty (X_latestFault' X (0 : Int32)) (1 : Int32)).1, (f_X3_faulty (X_latestFault' X (0 : Int32)) (1 : Int32)).2) := by rw [f_X3_put, if_pos c_7, if_pos c_24]
      rw [hF]
      exact kr_i B hP hS rfl rfl dX3_put_32
  · refine kc_V (As := [.int x1]) (rest := []) B (c_X3_sheetAt_none l D cI cO tF ad (X_latestFault' X (0 : Int32)) x1 c_7) (cwV 1 hts gX3_put_X3_sheetAt rfl rfl rfl (by decide +kernel) ⟨Nat.le_of_ble_eq_true rfl, Nat.le_of_ble_eq_true rfl⟩) hP hD hS [0, 1, 2, 3, 4, 5, 6, 7, 8, 9, 10, 11, 12, 13, 14, 15, 16, 17, 18, 19, 20, 21] wX_subA (by decide) (w' := wX ad cI cO (X_latestFault' X (0 : Int32))) (wX_setA _) (wX_fst _) 0 3 rfl rfl rfl rfl hl.1 rfl (Nat.le_of_ble_eq_true rfl) dX3_put_7 ⟨Nat.zero_le _, Nat.zero_le _⟩ (fun H locs hP hD hS => ?_)
    have hD : va_D A (wX ad cI cO (X_latestFault' X (0 : Int32))) := hD
    refine lv_astoreN (lv' := [(4, .null), (0, .ref (ad 0)), (1, .int x1), (2, .int x2), (3, .int x3)]) hx hb dX3_put_10 hl (by decide) rfl (fun ls hl => ?_)
    refine lv_aloadN hx hb dX3_put_12 (lv_at hl 0 rfl) ?_
    refine lv_ifnonnullN hx hb dX3_put_14 ?_
    refine lv_iconst (v := (-1 : Int32)) hx hb dX3_put_17 (by decide) ?_
    have hF : f_X3_put X x1 x2 x3 = ((-1 : Int32), (X_latestFault' X (0 : Int32))) := by rw [f_X3_put, if_neg c_7]
    rw [hF]
    exact kr_i B hP hS rfl rfl dX3_put_18
def f_X3_cell (X : XS) (x1 : Int32) (x2 : Int32) (x3 : Int32) : Int64 × XS := (if (0 : Int32) ≤ x1 ∧ x1 < (4 : Int32) then (if (f_X3_isLane x3) = 0 then ((-9223372036854775808 : Int64), (X_latestFault' X (0 : Int32))) else (if (f_X1_faultOf ((X_sheets X) x1.toNatClampNeg) x3 x2 (1 : Int32)) = 0 then ((f_X1_at ((X_sheets X) x1.toNatClampNeg) x2).toInt64, (X_latestFault' X (f_X1_faultOf ((X_sheets X) x1.toNatClampNeg) x3 x2 (1 : Int32)))) else ((-9223372036854775808 : Int64), (X_latestFault' X (f_X1_faultOf ((X_sheets X) x1.toNatClampNeg) x3 x2 (1 : Int32)))))) else ((-9223372036854775808 : Int64), (X_latestFault' X (0 : Int32))))
theorem iw_X3_cell_3 : ∀ w ∈ wsX30, w ∈ wsX3_cell := fun _ h => List.mem_cons_of_mem _ (List.mem_append_left _ (List.mem_append_right _ h))
set_option maxHeartbeats 4000000 in
set_option maxRecDepth 100000 in
theorem c_X3_cell (l : Launch) (D : va_G) (cI cO : ClassId) (tF : Nat) (ad : Nat → Nat) (X : XS) (x1 : Int32) (x2 : Int32) (x3 : Int32) : Ct l yX3_cell wsX3_cell ({ frames := 2, cells := 0, slots := 0, locals := 45 }) D cI cO tF [.ref (ad 0), .int x1, .int x2, .int x3] (wX ad cI cO X) (some (.long ((f_X3_cell X x1 x2 x3).1))) (wX ad cI cO ((f_X3_cell X x1 x2 x3).2)) := by
  refine Ct.of (cc := cX3_cell) (maxL := 5) (ret := (some .long)) (own := RX3) (by decide) rfl rfl (Nat.le_of_ble_eq_true rfl) ?_
  intro p e s m args below meth c A ls B hP hD hS hl
  obtain ⟨hx, hb, hret, hml, hts, hown, hlocks, hE, hA⟩ := id B
  have hK := hE.1
  have hl : lv_has ls 5 [(0, .ref (ad 0)), (1, .int x1), (2, .int x2), (3, .int x3)] := hl
  refine lv_aload_n hx hb dX3_cell_0 rfl (lv_at hl 0 rfl) ?_
  refine lv_iconst (v := (0 : Int32)) hx hb dX3_cell_1 (by decide) ?_
  refine va_put (D := D) (ci := 3) (v := .int (0 : Int32)) (ty := .int) (C := RX3) (T := TX3) (N := 7) hx hb hts iw_X3_cell_3 tyX3 tyX3_ok nmX3 hown hK hP hD hS 0 rfl rfl 6 (by decide) (hts (.fieldLink RX3 35 "TownLisp" "latestFault" "I") (by decide +kernel)) (fun _ h9 => h9) rfl (by decide +kernel) rfl rfl (Nat.le_of_ble_eq_true rfl) dX3_cell_2 (fun H locs hP hD hS => ?_)
  have hP : va_P D vwCl (wX ad cI cO (X_latestFault' X (0 : Int32))) H := hP
  have hD : va_D A (wX ad cI cO (X_latestFault' X (0 : Int32))) := hD
  refine lv_aload_n hx hb dX3_cell_5 rfl (lv_at hl 0 rfl) ?_
  refine lv_iload_n hx hb dX3_cell_6 rfl (lv_at hl 1 rfl) ?_
  by_cases c_7 : (0 : Int32) ≤ x1 ∧ x1 < (4 : Int32)
  · have hj_7 : x1.toNatClampNeg < 4 := sh_j c_7
    refine kc_V (As := [.int x1]) (rest := []) B (c_X3_sheetAt_some l D cI cO tF ad (X_latestFault' X (0 : Int32)) x1 c_7) (cwV 1 hts gX3_cell_X3_sheetAt rfl rfl rfl (by decide +kernel) ⟨Nat.le_of_ble_eq_true rfl, Nat.le_of_ble_eq_true rfl⟩) hP hD hS [0, 1, 2, 3, 4, 5, 6, 7, 8, 9, 10, 11, 12, 13, 14, 15, 16, 17, 18, 19, 20, 21] wX_subA (by decide) (w' := wX ad cI cO (X_latestFault' X (0 : Int32))) (wX_setA _) (wX_fst _) 0 3 rfl rfl rfl rfl hl.1 rfl (Nat.le_of_ble_eq_true rfl) dX3_cell_7 ⟨Nat.zero_le _, Nat.zero_le _⟩ (fun H locs hP hD hS => ?_)
    have hD : va_D A (wX ad cI cO (X_latestFault' X (0 : Int32))) := hD
    refine lv_astore (lv' := [(4, .ref (ad (14 + 2 * x1.toNatClampNeg))), (0, .ref (ad 0)), (1, .int x1), (2, .int x2), (3, .int x3)]) hx hb dX3_cell_10 hl (by decide) rfl (fun ls hl => ?_)
    refine lv_aload hx hb dX3_cell_12 (lv_at hl 0 rfl) ?_
    refine lv_ifnull hx hb dX3_cell_14 ?_
    refine lv_iload_n hx hb dX3_cell_17 rfl (lv_at hl 4 rfl) ?_
    refine kc_S (As := [.int x3]) (rest := []) B (c_X3_isLane l D cI cO tF x3 ) (va_cwS 1 hts gX3_cell_X3_isLane rfl rfl rfl (by decide +kernel) ⟨Nat.le_of_ble_eq_true rfl, Nat.le_of_ble_eq_true rfl⟩) hP hD hS [] rfl (by decide) (w' := wX ad cI cO (X_latestFault' X (0 : Int32))) rfl rfl rfl hl.1 rfl (Nat.le_of_ble_eq_true rfl) dX3_cell_18 ⟨Nat.zero_le _, Nat.zero_le _⟩ (fun H locs hP hD hS => ?_)
    have hD : va_D A (wX ad cI cO (X_latestFault' X (0 : Int32))) := hD
    refine lv_if_ne (tgt := 28) hx hb dX3_cell_21 (by decide) (fun c_21 => ?_) (fun c_21 => ?_)
    · refine lv_aload_n hx hb dX3_cell_28 rfl (lv_at hl 1 rfl) ?_
      refine lv_aload hx hb dX3_cell_29 (lv_at hl 0 rfl) ?_
      refine lv_iload_n hx hb dX3_cell_31 rfl (lv_at hl 4 rfl) ?_
      refine lv_iload_n hx hb dX3_cell_32 rfl (lv_at hl 3 rfl) ?_
      refine lv_iconst (v := (1 : Int32)) hx hb dX3_cell_33 (by decide) ?_
      refine kc_V (As := [.int x3, .int x2, .int (1 : Int32)]) (rest := [.ref (ad 0)]) B (c_X1_faultOf l D cI cO tF (ad (14 + 2 * x1.toNatClampNeg)) (ad (15 + 2 * x1.toNatClampNeg)) ((X_sheets X) x1.toNatClampNeg) x3 x2 (1 : Int32) ) (cwV 3 hts gX3_cell_X1_faultOf rfl rfl rfl (by decide +kernel) ⟨Nat.le_of_ble_eq_true rfl, Nat.le_of_ble_eq_true rfl⟩) hP hD hS [14 + 2 * x1.toNatClampNeg, 15 + 2 * x1.toNatClampNeg] (wX_subC hj_7) (nd_s _) (w' := wX ad cI cO (X_latestFault' X (0 : Int32))) (wX_same hj_7) rfl (14 + 2 * x1.toNatClampNeg) 1 rfl (wX_sheet hj_7) rfl rfl hl.1 rfl (Nat.le_of_ble_eq_true rfl) dX3_cell_34 ⟨Nat.zero_le _, Nat.zero_le _⟩ (fun H locs hP hD hS => ?_)
      have hD : va_D A (wX ad cI cO (X_latestFault' X (0 : Int32))) := hD
      refine va_put (D := D) (ci := 3) (v := .int (f_X1_faultOf ((X_sheets X) x1.toNatClampNeg) x3 x2 (1 : Int32))) (ty := .int) (C := RX3) (T := TX3) (N := 7) hx hb hts iw_X3_cell_3 tyX3 tyX3_ok nmX3 hown hK hP hD hS 0 rfl rfl 6 (by decide) (hts (.fieldLink RX3 35 "TownLisp" "latestFault" "I") (by decide +kernel)) (fun _ h9 => h9) rfl (by decide +kernel) rfl rfl (Nat.le_of_ble_eq_true rfl) dX3_cell_37 (fun H locs hP hD hS => ?_)
      have hP : va_P D vwCl (wX ad cI cO (X_latestFault' X (f_X1_faultOf ((X_sheets X) x1.toNatClampNeg) x3 x2 (1 : Int32)))) H := hP
      have hD : va_D A (wX ad cI cO (X_latestFault' X (f_X1_faultOf ((X_sheets X) x1.toNatClampNeg) x3 x2 (1 : Int32)))) := hD
      refine lv_aload_n hx hb dX3_cell_40 rfl (lv_at hl 1 rfl) ?_
      refine va_get (D := D) (ci := 3) (v := .int (f_X1_faultOf ((X_sheets X) x1.toNatClampNeg) x3 x2 (1 : Int32))) (C := RX3) (T := TX3) (N := 7) hx hb hts iw_X3_cell_3 hown hK hP 0 rfl rfl 6 (by decide) (hts (.fieldLink RX3 35 "TownLisp" "latestFault" "I") (by decide +kernel)) (fun _ h9 => h9) rfl dX3_cell_41 ?_
      refine lv_if_ne (tgt := 57) hx hb dX3_cell_44 (by decide) (fun c_44 => ?_) (fun c_44 => ?_)
      · refine lv_ldc2 hx hb hown (hts (.constantLong RX3 140 (-9223372036854775808 : Int64)) (by decide +kernel)) dX3_cell_57 ?_
        have hF : f_X3_cell X x1 x2 x3 = ((-9223372036854775808 : Int64), (X_latestFault' X (f_X1_faultOf ((X_sheets X) x1.toNatClampNeg) x3 x2 (1 : Int32)))) := by rw [f_X3_cell, if_pos c_7, if_neg c_21, if_neg c_44]
        rw [hF]
        exact kr_l B hP hS rfl rfl dX3_cell_60
      · refine lv_aload hx hb dX3_cell_47 (lv_at hl 0 rfl) ?_
        refine lv_iload_n hx hb dX3_cell_49 rfl (lv_at hl 3 rfl) ?_
        refine kc_V (As := [.int x2]) (rest := []) B (c_X1_at l D cI cO tF (ad (14 + 2 * x1.toNatClampNeg)) (ad (15 + 2 * x1.toNatClampNeg)) ((X_sheets X) x1.toNatClampNeg) x2 ) (cwV 1 hts gX3_cell_X1_at rfl rfl rfl (by decide +kernel) ⟨Nat.le_of_ble_eq_true rfl, Nat.le_of_ble_eq_true rfl⟩) hP hD hS [14 + 2 * x1.toNatClampNeg, 15 + 2 * x1.toNatClampNeg] (wX_subC hj_7) (nd_s _) (w' := wX ad cI cO (X_latestFault' X (f_X1_faultOf ((X_sheets X) x1.toNatClampNeg) x3 x2 (1 : Int32)))) (wX_same hj_7) rfl (14 + 2 * x1.toNatClampNeg) 1 rfl (wX_sheet hj_7) rfl rfl hl.1 rfl (Nat.le_of_ble_eq_true rfl) dX3_cell_50 ⟨Nat.zero_le _, Nat.zero_le _⟩ (fun H locs hP hD hS => ?_)
        have hD : va_D A (wX ad cI cO (X_latestFault' X (f_X1_faultOf ((X_sheets X) x1.toNatClampNeg) x3 x2 (1 : Int32)))) := hD
        refine lv_i2l (v := (f_X1_at ((X_sheets X) x1.toNatClampNeg) x2).toInt64) hx hb dX3_cell_53 rfl ?_
        refine lv_goto (tgt := 60) hx hb dX3_cell_54 (by decide) ?_
        have hF : f_X3_cell X x1 x2 x3 = ((f_X1_at ((X_sheets X) x1.toNatClampNeg) x2).toInt64, (X_latestFault' X (f_X1_faultOf ((X_sheets X) x1.toNatClampNeg) x3 x2 (1 : Int32)))) := by rw [f_X3_cell, if_pos c_7, if_neg c_21, if_pos c_44]
        rw [hF]
        exact kr_l B hP hS rfl rfl dX3_cell_60
    · refine lv_ldc2 hx hb hown (hts (.constantLong RX3 140 (-9223372036854775808 : Int64)) (by decide +kernel)) dX3_cell_24 ?_
      have hF : f_X3_cell X x1 x2 x3 = ((-9223372036854775808 : Int64), (X_latestFault' X (0 : Int32))) := by rw [f_X3_cell, if_pos c_7, if_pos c_21]
      rw [hF]
      exact kr_l B hP hS rfl rfl dX3_cell_27
  · refine kc_V (As := [.int x1]) (rest := []) B (c_X3_sheetAt_none l D cI cO tF ad (X_latestFault' X (0 : Int32)) x1 c_7) (cwV 1 hts gX3_cell_X3_sheetAt rfl rfl rfl (by decide +kernel) ⟨Nat.le_of_ble_eq_true rfl, Nat.le_of_ble_eq_true rfl⟩) hP hD hS [0, 1, 2, 3, 4, 5, 6, 7, 8, 9, 10, 11, 12, 13, 14, 15, 16, 17, 18, 19, 20, 21] wX_subA (by decide) (w' := wX ad cI cO (X_latestFault' X (0 : Int32))) (wX_setA _) (wX_fst _) 0 3 rfl rfl rfl rfl hl.1 rfl (Nat.le_of_ble_eq_true rfl) dX3_cell_7 ⟨Nat.zero_le _, Nat.zero_le _⟩ (fun H locs hP hD hS => ?_)
    have hD : va_D A (wX ad cI cO (X_latestFault' X (0 : Int32))) := hD
    refine lv_astoreN (lv' := [(4, .null), (0, .ref (ad 0)), (1, .int x1), (2, .int x2), (3, .int x3)]) hx hb dX3_cell_10 hl (by decide) rfl (fun ls hl => ?_)
    refine lv_aloadN hx hb dX3_cell_12 (lv_at hl 0 rfl) ?_
    refine lv_ifnullN (tgt := 24) hx hb dX3_cell_14 (by decide) ?_
    refine lv_ldc2 hx hb hown (hts (.constantLong RX3 140 (-9223372036854775808 : Int64)) (by decide +kernel)) dX3_cell_24 ?_
    have hF : f_X3_cell X x1 x2 x3 = ((-9223372036854775808 : Int64), (X_latestFault' X (0 : Int32))) := by rw [f_X3_cell, if_neg c_7]
    rw [hF]
    exact kr_l B hP hS rfl rfl dX3_cell_27
def f_X3_copy (X : XS) (x1 : Int32) (x2 : Int32) (x3 : Int32) (x4 : Int32) (x5 : Int32) : Int32 × XS := (if (0 : Int32) ≤ x1 ∧ x1 < (4 : Int32) then (if (0 : Int32) ≤ x3 ∧ x3 < (4 : Int32) then (if (S_held ((X_sheets X) x1.toNatClampNeg)) = 0 then ((f_X3_faulty (X_latestFault' X (0 : Int32)) (1 : Int32)).1, (f_X3_faulty (X_latestFault' X (0 : Int32)) (1 : Int32)).2) else (if (S_held ((X_sheets X) x3.toNatClampNeg)) = 0 then ((f_X3_faulty (X_latestFault' X (0 : Int32)) (1 : Int32)).1, (f_X3_faulty (X_latestFault' X (0 : Int32)) (1 : Int32)).2) else (if (S_lane ((X_sheets X) x1.toNatClampNeg)) = (S_lane ((X_sheets X) x3.toNatClampNeg)) then (if (f_X1_spans ((X_sheets X) x1.toNatClampNeg) x2 x5) = 0 then ((f_X3_faulty (X_latestFault' X (0 : Int32)) (3 : Int32)).1, (f_X3_faulty (X_latestFault' X (0 : Int32)) (3 : Int32)).2) else (if (f_X1_spans ((X_sheets X) x3.toNatClampNeg) x4 x5) = 0 then ((f_X3_faulty (X_latestFault' X (0 : Int32)) (3 : Int32)).1, (f_X3_faulty (X_latestFault' X (0 : Int32)) (3 : Int32)).2) else (x5, (X_sheets' (X_latestFault' X (0 : Int32)) (va_up (X_sheets X) x3.toNatClampNeg (S_cells' ((X_sheets X) x3.toNatClampNeg) (va_cpy (S_cells ((X_sheets X) x1.toNatClampNeg)) (S_cells ((X_sheets X) x3.toNatClampNeg)) x2.toNatClampNeg x4.toNatClampNeg x5.toNatClampNeg))))))) else ((f_X3_faulty (X_latestFault' X (0 : Int32)) (2 : Int32)).1, (f_X3_faulty (X_latestFault' X (0 : Int32)) (2 : Int32)).2)))) else ((-1 : Int32), (X_latestFault' X (0 : Int32)))) else (if (0 : Int32) ≤ x3 ∧ x3 < (4 : Int32) then ((-1 : Int32), (X_latestFault' X (0 : Int32))) else ((-1 : Int32), (X_latestFault' X (0 : Int32)))))
theorem iw_X3_copy_1 : ∀ w ∈ wsX10, w ∈ wsX3_copy := fun _ h => List.mem_cons_of_mem _ (List.mem_append_right _ h)
theorem iw_X3_copy_3 : ∀ w ∈ wsX30, w ∈ wsX3_copy := fun _ h => List.mem_cons_of_mem _ (List.mem_append_left _ (List.mem_append_right _ h))
set_option maxHeartbeats 4000000 in
set_option maxRecDepth 100000 in
theorem c_X3_copy (l : Launch) (D : va_G) (cI cO : ClassId) (tF : Nat) (ad : Nat → Nat) (X : XS) (x1 : Int32) (x2 : Int32) (x3 : Int32) (x4 : Int32) (x5 : Int32) (hL : ∀ j : Nat, j < 4 → (S_length (X_sheets X j)).toInt ≤ 60) : Ct l yX3_copy wsX3_copy ({ frames := 1, cells := 0, slots := 0, locals := 60 }) D cI cO tF [.ref (ad 0), .int x1, .int x2, .int x3, .int x4, .int x5] (wX ad cI cO X) (some (.int ((f_X3_copy X x1 x2 x3 x4 x5).1))) (wX ad cI cO ((f_X3_copy X x1 x2 x3 x4 x5).2)) := by
  refine Ct.of (cc := cX3_copy) (maxL := 8) (ret := (some .int)) (own := RX3) (by decide) rfl rfl (Nat.le_of_ble_eq_true rfl) ?_
  intro p e s m args below meth c A ls B hP hD hS hl
  obtain ⟨hx, hb, hret, hml, hts, hown, hlocks, hE, hA⟩ := id B
  have hK := hE.1
  have hl : lv_has ls 8 [(0, .ref (ad 0)), (1, .int x1), (2, .int x2), (3, .int x3), (4, .int x4), (5, .int x5)] := hl
  refine lv_aload_n hx hb dX3_copy_0 rfl (lv_at hl 0 rfl) ?_
  refine lv_iconst (v := (0 : Int32)) hx hb dX3_copy_1 (by decide) ?_
  refine va_put (D := D) (ci := 3) (v := .int (0 : Int32)) (ty := .int) (C := RX3) (T := TX3) (N := 7) hx hb hts iw_X3_copy_3 tyX3 tyX3_ok nmX3 hown hK hP hD hS 0 rfl rfl 6 (by decide) (hts (.fieldLink RX3 35 "TownLisp" "latestFault" "I") (by decide +kernel)) (fun _ h9 => h9) rfl (by decide +kernel) rfl rfl (Nat.le_of_ble_eq_true rfl) dX3_copy_2 (fun H locs hP hD hS => ?_)
  have hP : va_P D vwCl (wX ad cI cO (X_latestFault' X (0 : Int32))) H := hP
  have hD : va_D A (wX ad cI cO (X_latestFault' X (0 : Int32))) := hD
  refine lv_aload_n hx hb dX3_copy_5 rfl (lv_at hl 0 rfl) ?_
  refine lv_iload_n hx hb dX3_copy_6 rfl (lv_at hl 1 rfl) ?_
  by_cases c_7 : (0 : Int32) ≤ x1 ∧ x1 < (4 : Int32)
  · have hj_7 : x1.toNatClampNeg < 4 := sh_j c_7
    refine kc_V (As := [.int x1]) (rest := []) B (c_X3_sheetAt_some l D cI cO tF ad (X_latestFault' X (0 : Int32)) x1 c_7) (cwV 1 hts gX3_copy_X3_sheetAt rfl rfl rfl (by decide +kernel) ⟨Nat.le_of_ble_eq_true rfl, Nat.le_of_ble_eq_true rfl⟩) hP hD hS [0, 1, 2, 3, 4, 5, 6, 7, 8, 9, 10, 11, 12, 13, 14, 15, 16, 17, 18, 19, 20, 21] wX_subA (by decide) (w' := wX ad cI cO (X_latestFault' X (0 : Int32))) (wX_setA _) (wX_fst _) 0 3 rfl rfl rfl rfl hl.1 rfl (Nat.le_of_ble_eq_true rfl) dX3_copy_7 ⟨Nat.zero_le _, Nat.zero_le _⟩ (fun H locs hP hD hS => ?_)
    have hD : va_D A (wX ad cI cO (X_latestFault' X (0 : Int32))) := hD
    refine lv_astore (lv' := [(6, .ref (ad (14 + 2 * x1.toNatClampNeg))), (0, .ref (ad 0)), (1, .int x1), (2, .int x2), (3, .int x3), (4, .int x4), (5, .int x5)]) hx hb dX3_copy_10 hl (by decide) rfl (fun ls hl => ?_)
    refine lv_aload_n hx hb dX3_copy_12 rfl (lv_at hl 1 rfl) ?_
    refine lv_iload_n hx hb dX3_copy_13 rfl (lv_at hl 4 rfl) ?_
    by_cases c_14 : (0 : Int32) ≤ x3 ∧ x3 < (4 : Int32)
    · have hj_14 : x3.toNatClampNeg < 4 := sh_j c_14
      refine kc_V (As := [.int x3]) (rest := []) B (c_X3_sheetAt_some l D cI cO tF ad (X_latestFault' X (0 : Int32)) x3 c_14) (cwV 1 hts gX3_copy_X3_sheetAt rfl rfl rfl (by decide +kernel) ⟨Nat.le_of_ble_eq_true rfl, Nat.le_of_ble_eq_true rfl⟩) hP hD hS [0, 1, 2, 3, 4, 5, 6, 7, 8, 9, 10, 11, 12, 13, 14, 15, 16, 17, 18, 19, 20, 21] wX_subA (by decide) (w' := wX ad cI cO (X_latestFault' X (0 : Int32))) (wX_setA _) (wX_fst _) 0 3 rfl rfl rfl rfl hl.1 rfl (Nat.le_of_ble_eq_true rfl) dX3_copy_14 ⟨Nat.zero_le _, Nat.zero_le _⟩ (fun H locs hP hD hS => ?_)
      have hD : va_D A (wX ad cI cO (X_latestFault' X (0 : Int32))) := hD
      refine lv_astore (lv' := [(7, .ref (ad (14 + 2 * x3.toNatClampNeg))), (6, .ref (ad (14 + 2 * x1.toNatClampNeg))), (0, .ref (ad 0)), (1, .int x1), (2, .int x2), (3, .int x3), (4, .int x4), (5, .int x5)]) hx hb dX3_copy_17 hl (by decide) rfl (fun ls hl => ?_)
      refine lv_aload hx hb dX3_copy_19 (lv_at hl 1 rfl) ?_
      refine lv_ifnull hx hb dX3_copy_21 ?_
      refine lv_aload hx hb dX3_copy_24 (lv_at hl 0 rfl) ?_
      refine lv_ifnonnull (tgt := 31) hx hb dX3_copy_26 (by decide) ?_
      refine lv_aload hx hb dX3_copy_31 (lv_at hl 1 rfl) ?_
      refine va_get (D := D) (ci := 1) (v := .int (S_held ((X_sheets X) x1.toNatClampNeg))) (C := RX1) (T := TX1) (N := 4) hx hb hts iw_X3_copy_1 hown hK hP (14 + 2 * x1.toNatClampNeg) (wX_sheet hj_7) rfl 3 (by decide) (hts (.fieldLink RX3 169 "TownLisp$Sheet" "held" "Z") (by decide +kernel)) (fun _ h9 => h9) rfl dX3_copy_33 ?_
      refine lv_if_eq (tgt := 47) hx hb dX3_copy_36 (by decide) (fun c_36 => ?_) (fun c_36 => ?_)
      · refine lv_aload_n hx hb dX3_copy_47 rfl (lv_at hl 2 rfl) ?_
        refine lv_iconst (v := (1 : Int32)) hx hb dX3_copy_48 (by decide) ?_
        refine kc_V (As := [.int (1 : Int32)]) (rest := []) B (c_X3_faulty l D cI cO tF ad (X_latestFault' X (0 : Int32)) (1 : Int32) ) (cwV 1 hts gX3_copy_X3_faulty rfl rfl rfl (by decide +kernel) ⟨Nat.le_of_ble_eq_true rfl, Nat.le_of_ble_eq_true rfl⟩) hP hD hS [0, 1, 2, 3, 4, 5, 6, 7, 8, 9, 10, 11, 12, 13, 14, 15, 16, 17, 18, 19, 20, 21] wX_subA (by decide) (w' := wX ad cI cO ((f_X3_faulty (X_latestFault' X (0 : Int32)) (1 : Int32)).2)) (wX_setA _) (wX_fst _) 0 3 rfl rfl rfl rfl hl.1 rfl (Nat.le_of_ble_eq_true rfl) dX3_copy_49 ⟨Nat.zero_le _, Nat.zero_le _⟩ (fun H locs hP hD hS => ?_)
        have hD : va_D A (wX ad cI cO ((f_X3_faulty (X_latestFault' X (0 : Int32)) (1 : Int32)).2)) := hD
        have hF : f_X3_copy X x1 x2 x3 x4 x5 = ((f_X3_faulty (X_latestFault' X (0 : Int32)) (1 : Int32)).1, (f_X3_faulty (X_latestFault' X (0 : Int32)) (1 : Int32)).2) := by rw [f_X3_copy, if_pos c_7, if_pos c_14, if_pos c_36]
        rw [hF]
        exact kr_i B hP hS rfl rfl dX3_copy_52
      · refine lv_aload hx hb dX3_copy_39 (lv_at hl 0 rfl) ?_
        refine va_get (D := D) (ci := 1) (v := .int (S_held ((X_sheets X) x3.toNatClampNeg))) (C := RX1) (T := TX1) (N := 4) hx hb hts iw_X3_copy_1 hown hK hP (14 + 2 * x3.toNatClampNeg) (wX_sheet hj_14) rfl 3 (by decide) (hts (.fieldLink RX3 169 "TownLisp$Sheet" "held" "Z") (by decide +kernel)) (fun _ h9 => h9) rfl dX3_copy_41 ?_
        refine lv_if_ne (tgt := 53) hx hb dX3_copy_44 (by decide) (fun c_44 => ?_) (fun c_44 => ?_)
        · refine lv_aload hx hb dX3_copy_53 (lv_at hl 1 rfl) ?_
          refine va_get (D := D) (ci := 1) (v := .int (S_lane ((X_sheets X) x1.toNatClampNeg))) (C := RX1) (T := TX1) (N := 4) hx hb hts iw_X3_copy_1 hown hK hP (14 + 2 * x1.toNatClampNeg) (wX_sheet hj_7) rfl 1 (by decide) (hts (.fieldLink RX3 185 "TownLisp$Sheet" "lane" "I") (by decide +kernel)) (fun _ h9 => h9) rfl dX3_copy_55 ?_
          refine lv_aload hx hb dX3_copy_58 (lv_at hl 0 rfl) ?_
          refine va_get (D := D) (ci := 1) (v := .int (S_lane ((X_sheets X) x3.toNatClampNeg))) (C := RX1) (T := TX1) (N := 4) hx hb hts iw_X3_copy_1 hown hK hP (14 + 2 * x3.toNatClampNeg) (wX_sheet hj_14) rfl 1 (by decide) (hts (.fieldLink RX3 185 "TownLisp$Sheet" "lane" "I") (by decide +kernel)) (fun _ h9 => h9) rfl dX3_copy_60 ?_
          refine lv_icmp_eq (tgt := 72) hx hb dX3_copy_63 (by decide) (fun c_63 => ?_) (fun c_63 => ?_)
          · refine lv_aload hx hb dX3_copy_72 (lv_at hl 1 rfl) ?_
            refine lv_iload_n hx hb dX3_copy_74 rfl (lv_at hl 4 rfl) ?_
            refine lv_iload hx hb dX3_copy_75 (lv_at hl 7 rfl) ?_
            refine kc_V (As := [.int x2, .int x5]) (rest := []) B (c_X1_spans l D cI cO tF (ad (14 + 2 * x1.toNatClampNeg)) (ad (15 + 2 * x1.toNatClampNeg)) ((X_sheets X) x1.toNatClampNeg) x2 x5 ) (cwV 2 hts gX3_copy_X1_spans rfl rfl rfl (by decide +kernel) ⟨Nat.le_of_ble_eq_true rfl, Nat.le_of_ble_eq_true rfl⟩) hP hD hS [14 + 2 * x1.toNatClampNeg, 15 + 2 * x1.toNatClampNeg] (wX_subC hj_7) (nd_s _) (w' := wX ad cI cO (X_latestFault' X (0 : Int32))) (wX_same hj_7) rfl (14 + 2 * x1.toNatClampNeg) 1 rfl (wX_sheet hj_7) rfl rfl hl.1 rfl (Nat.le_of_ble_eq_true rfl) dX3_copy_77 ⟨Nat.zero_le _, Nat.zero_le _⟩ (fun H locs hP hD hS => ?_)
            have hD : va_D A (wX ad cI cO (X_latestFault' X (0 : Int32))) := hD
            refine lv_if_eq (tgt := 95) hx hb dX3_copy_80 (by decide) (fun c_80 => ?_) (fun c_80 => ?_)
            · refine lv_aload_n hx hb dX3_copy_95 rfl (lv_at hl 2 rfl) ?_
              refine lv_iconst (v := (3 : Int32)) hx hb dX3_copy_96 (by decide) ?_
              refine kc_V (As := [.int (3 : Int32)]) (rest := []) B (c_X3_faulty l D cI cO tF ad (X_latestFault' X (0 : Int32)) (3 : Int32) ) (cwV 1 hts gX3_copy_X3_faulty rfl rfl rfl (by decide +kernel) ⟨Nat.le_of_ble_eq_true rfl, Nat.le_of_ble_eq_true rfl⟩) hP hD hS [0, 1, 2, 3, 4, 5, 6, 7, 8, 9, 10, 11, 12, 13, 14, 15, 16, 17, 18, 19, 20, 21] wX_subA (by decide) (w' := wX ad cI cO ((f_X3_faulty (X_latestFault' X (0 : Int32)) (3 : Int32)).2)) (wX_setA _) (wX_fst _) 0 3 rfl rfl rfl rfl hl.1 rfl (Nat.le_of_ble_eq_true rfl) dX3_copy_97 ⟨Nat.zero_le _, Nat.zero_le _⟩ (fun H locs hP hD hS => ?_)
              have hD : va_D A (wX ad cI cO ((f_X3_faulty (X_latestFault' X (0 : Int32)) (3 : Int32)).2)) := hD
              have hF : f_X3_copy X x1 x2 x3 x4 x5 = ((f_X3_faulty (X_latestFault' X (0 : Int32)) (3 : Int32)).1, (f_X3_faulty (X_latestFault' X (0 : Int32)) (3 : Int32)).2) := by rw [f_X3_copy, if_pos c_7, if_pos c_14, if_neg c_36, if_neg c_44, if_pos c_63, if_pos c_80]
              rw [hF]
              exact kr_i B hP hS rfl rfl dX3_copy_100
            · refine lv_aload hx hb dX3_copy_83 (lv_at hl 0 rfl) ?_
              refine lv_iload hx hb dX3_copy_85 (lv_at hl 6 rfl) ?_
              refine lv_iload hx hb dX3_copy_87 (lv_at hl 7 rfl) ?_
              refine kc_V (As := [.int x4, .int x5]) (rest := []) B (c_X1_spans l D cI cO tF (ad (14 + 2 * x3.toNatClampNeg)) (ad (15 + 2 * x3.toNatClampNeg)) ((X_sheets X) x3.toNatClampNeg) x4 x5 ) (cwV 2 hts gX3_copy_X1_spans rfl rfl rfl (by decide +kernel) ⟨Nat.le_of_ble_eq_true rfl, Nat.le_of_ble_eq_true rfl⟩) hP hD hS [14 + 2 * x3.toNatClampNeg, 15 + 2 * x3.toNatClampNeg] (wX_subC hj_14) (nd_s _) (w' := wX ad cI cO (X_latestFault' X (0 : Int32))) (wX_same hj_14) rfl (14 + 2 * x3.toNatClampNeg) 1 rfl (wX_sheet hj_14) rfl rfl hl.1 rfl (Nat.le_of_ble_eq_true rfl) dX3_copy_89 ⟨Nat.zero_le _, Nat.zero_le _⟩ (fun H locs hP hD hS => ?_)
              have hD : va_D A (wX ad cI cO (X_latestFault' X (0 : Int32))) := hD
              refine lv_if_ne (tgt := 101) hx hb dX3_copy_92 (by decide) (fun c_92 => ?_) (fun c_92 => ?_)
              · refine lv_aload hx hb dX3_copy_101 (lv_at hl 1 rfl) ?_
                refine va_get (D := D) (ci := 1) (v := .ref (ad (15 + 2 * x1.toNatClampNeg))) (C := RX1) (T := TX1) (N := 4) hx hb hts iw_X3_copy_1 hown hK hP (14 + 2 * x1.toNatClampNeg) (wX_sheet hj_7) rfl 0 (by decide) (hts (.fieldLink RX3 176 "TownLisp$Sheet" "cells" "[I") (by decide +kernel)) (fun _ h9 => h9) rfl dX3_copy_103 ?_
                refine lv_iload_n hx hb dX3_copy_106 rfl (lv_at hl 4 rfl) ?_
                refine lv_aload hx hb dX3_copy_107 (lv_at hl 0 rfl) ?_
                refine va_get (D := D) (ci := 1) (v := .ref (ad (15 + 2 * x3.toNatClampNeg))) (C := RX1) (T := TX1) (N := 4) hx hb hts iw_X3_copy_1 hown hK hP (14 + 2 * x3.toNatClampNeg) (wX_sheet hj_14) rfl 0 (by decide) (hts (.fieldLink RX3 176 "TownLisp$Sheet" "cells" "[I") (by decide +kernel)) (fun _ h9 => h9) rfl dX3_copy_109 ?_
                refine lv_iload hx hb dX3_copy_112 (lv_at hl 6 rfl) ?_
                refine lv_iload hx hb dX3_copy_114 (lv_at hl 7 rfl) ?_
                refine va_copyi hx hb (hml.trans hl.1.symm) hown (hts (.methodLink RX3 188 arraycopyName) (by decide +kernel)) (hts (.native arraycopyName) (by decide +kernel)) (hts (.static arraycopyName) (by decide +kernel)) (hts (.initialized "java/lang/System") (by decide +kernel)) hK hP hD hS (15 + 2 * x1.toNatClampNeg) (15 + 2 * x3.toNatClampNeg) 0 0 (wX_sheetc hj_7) (wX_sheetc hj_14) rfl rfl rfl (sp_cl c_80 (hL _ hj_7)).1 (sp_cl c_92 (hL _ hj_14)).1 (sp_cl c_80 (hL _ hj_7)).2.1 (sp_cl c_80 (hL _ hj_7)).2.2 (sp_cl c_92 (hL _ hj_14)).2.2 (fun _ _ => rfl) (Nat.le_of_ble_eq_true rfl) (by decide +kernel) dX3_copy_116 (fun H locs hP hD hS => ?_)
                have hP : va_P D vwCl (wX ad cI cO (X_sheets' (X_latestFault' X (0 : Int32)) (va_up (X_sheets X) x3.toNatClampNeg (S_cells' ((X_sheets X) x3.toNatClampNeg) (va_cpy (S_cells ((X_sheets X) x1.toNatClampNeg)) (S_cells ((X_sheets X) x3.toNatClampNeg)) x2.toNatClampNeg x4.toNatClampNeg x5.toNatClampNeg))))) H := wX_setc hj_14 _ ▸ hP
                have hD : va_D A (wX ad cI cO (X_sheets' (X_latestFault' X (0 : Int32)) (va_up (X_sheets X) x3.toNatClampNeg (S_cells' ((X_sheets X) x3.toNatClampNeg) (va_cpy (S_cells ((X_sheets X) x1.toNatClampNeg)) (S_cells ((X_sheets X) x3.toNatClampNeg)) x2.toNatClampNeg x4.toNatClampNeg x5.toNatClampNeg))))) := wX_setc hj_14 _ ▸ hD
                refine lv_iload hx hb dX3_copy_119 (lv_at hl 7 rfl) ?_
                have hF : f_X3_copy X x1 x2 x3 x4 x5 = (x5, (X_sheets' (X_latestFault' X (0 : Int32)) (va_up (X_sheets X) x3.toNatClampNeg (S_cells' ((X_sheets X) x3.toNatClampNeg) (va_cpy (S_cells ((X_sheets X) x1.toNatClampNeg)) (S_cells ((X_sheets X) x3.toNatClampNeg)) x2.toNatClampNeg x4.toNatClampNeg x5.toNatClampNeg))))) := by rw [f_X3_copy, if_pos c_7, if_pos c_14, if_neg c_36, if_neg c_44, if_pos c_63, if_neg c_80, if_neg c_92]
                rw [hF]
                exact kr_i B hP hS rfl rfl dX3_copy_121
              · refine lv_aload_n hx hb dX3_copy_95 rfl (lv_at hl 2 rfl) ?_
                refine lv_iconst (v := (3 : Int32)) hx hb dX3_copy_96 (by decide) ?_
                refine kc_V (As := [.int (3 : Int32)]) (rest := []) B (c_X3_faulty l D cI cO tF ad (X_latestFault' X (0 : Int32)) (3 : Int32) ) (cwV 1 hts gX3_copy_X3_faulty rfl rfl rfl (by decide +kernel) ⟨Nat.le_of_ble_eq_true rfl, Nat.le_of_ble_eq_true rfl⟩) hP hD hS [0, 1, 2, 3, 4, 5, 6, 7, 8, 9, 10, 11, 12, 13, 14, 15, 16, 17, 18, 19, 20, 21] wX_subA (by decide) (w' := wX ad cI cO ((f_X3_faulty (X_latestFault' X (0 : Int32)) (3 : Int32)).2)) (wX_setA _) (wX_fst _) 0 3 rfl rfl rfl rfl hl.1 rfl (Nat.le_of_ble_eq_true rfl) dX3_copy_97 ⟨Nat.zero_le _, Nat.zero_le _⟩ (fun H locs hP hD hS => ?_)
                have hD : va_D A (wX ad cI cO ((f_X3_faulty (X_latestFault' X (0 : Int32)) (3 : Int32)).2)) := hD
                have hF : f_X3_copy X x1 x2 x3 x4 x5 = ((f_X3_faulty (X_latestFault' X (0 : Int32)) (3 : Int32)).1, (f_X3_faulty (X_latestFault' X (0 : Int32)) (3 : Int32)).2) := by rw [f_X3_copy, if_pos c_7, if_pos c_14, if_neg c_36, if_neg c_44, if_pos c_63, if_neg c_80, if_pos c_92]
                rw [hF]
                exact kr_i B hP hS rfl rfl dX3_copy_100
          · refine lv_aload_n hx hb dX3_copy_66 rfl (lv_at hl 2 rfl) ?_
            refine lv_iconst (v := (2 : Int32)) hx hb dX3_copy_67 (by decide) ?_
            refine kc_V (As := [.int (2 : Int32)]) (rest := []) B (c_X3_faulty l D cI cO tF ad (X_latestFault' X (0 : Int32)) (2 : Int32) ) (cwV 1 hts gX3_copy_X3_faulty rfl rfl rfl (by decide +kernel) ⟨Nat.le_of_ble_eq_true rfl, Nat.le_of_ble_eq_true rfl⟩) hP hD hS [0, 1, 2, 3, 4, 5, 6, 7, 8, 9, 10, 11, 12, 13, 14, 15, 16, 17, 18, 19, 20, 21] wX_subA (by decide) (w' := wX ad cI cO ((f_X3_faulty (X_latestFault' X (0 : Int32)) (2 : Int32)).2)) (wX_setA _) (wX_fst _) 0 3 rfl rfl rfl rfl hl.1 rfl (Nat.le_of_ble_eq_true rfl) dX3_copy_68 ⟨Nat.zero_le _, Nat.zero_le _⟩ (fun H locs hP hD hS => ?_)
            have hD : va_D A (wX ad cI cO ((f_X3_faulty (X_latestFault' X (0 : Int32)) (2 : Int32)).2)) := hD
            have hF : f_X3_copy X x1 x2 x3 x4 x5 = ((f_X3_faulty (X_latestFault' X (0 : Int32)) (2 : Int32)).1, (f_X3_faulty (X_latestFault' X (0 : Int32)) (2 : Int32)).2) := by rw [f_X3_copy, if_pos c_7, if_pos c_14, if_neg c_36, if_neg c_44, if_neg c_63]
            rw [hF]
            exact kr_i B hP hS rfl rfl dX3_copy_71
        · refine lv_aload_n hx hb dX3_copy_47 rfl (lv_at hl 2 rfl) ?_
          refine lv_iconst (v := (1 : Int32)) hx hb dX3_copy_48 (by decide) ?_
          refine kc_V (As := [.int (1 : Int32)]) (rest := []) B (c_X3_faulty l D cI cO tF ad (X_latestFault' X (0 : Int32)) (1 : Int32) ) (cwV 1 hts gX3_copy_X3_faulty rfl rfl rfl (by decide +kernel) ⟨Nat.le_of_ble_eq_true rfl, Nat.le_of_ble_eq_true rfl⟩) hP hD hS [0, 1, 2, 3, 4, 5, 6, 7, 8, 9, 10, 11, 12, 13, 14, 15, 16, 17, 18, 19, 20, 21] wX_subA (by decide) (w' := wX ad cI cO ((f_X3_faulty (X_latestFault' X (0 : Int32)) (1 : Int32)).2)) (wX_setA _) (wX_fst _) 0 3 rfl rfl rfl rfl hl.1 rfl (Nat.le_of_ble_eq_true rfl) dX3_copy_49 ⟨Nat.zero_le _, Nat.zero_le _⟩ (fun H locs hP hD hS => ?_)
          have hD : va_D A (wX ad cI cO ((f_X3_faulty (X_latestFault' X (0 : Int32)) (1 : Int32)).2)) := hD
          have hF : f_X3_copy X x1 x2 x3 x4 x5 = ((f_X3_faulty (X_latestFault' X (0 : Int32)) (1 : Int32)).1, (f_X3_faulty (X_latestFault' X (0 : Int32)) (1 : Int32)).2) := by rw [f_X3_copy, if_pos c_7, if_pos c_14, if_neg c_36, if_pos c_44]
          rw [hF]
          exact kr_i B hP hS rfl rfl dX3_copy_52
    · refine kc_V (As := [.int x3]) (rest := []) B (c_X3_sheetAt_none l D cI cO tF ad (X_latestFault' X (0 : Int32)) x3 c_14) (cwV 1 hts gX3_copy_X3_sheetAt rfl rfl rfl (by decide +kernel) ⟨Nat.le_of_ble_eq_true rfl, Nat.le_of_ble_eq_true rfl⟩) hP hD hS [0, 1, 2, 3, 4, 5, 6, 7, 8, 9, 10, 11, 12, 13, 14, 15, 16, 17, 18, 19, 20, 21] wX_subA (by decide) (w' := wX ad cI cO (X_latestFault' X (0 : Int32))) (wX_setA _) (wX_fst _) 0 3 rfl rfl rfl rfl hl.1 rfl (Nat.le_of_ble_eq_true rfl) dX3_copy_14 ⟨Nat.zero_le _, Nat.zero_le _⟩ (fun H locs hP hD hS => ?_)
      have hD : va_D A (wX ad cI cO (X_latestFault' X (0 : Int32))) := hD
      refine lv_astoreN (lv' := [(7, .null), (6, .ref (ad (14 + 2 * x1.toNatClampNeg))), (0, .ref (ad 0)), (1, .int x1), (2, .int x2), (3, .int x3), (4, .int x4), (5, .int x5)]) hx hb dX3_copy_17 hl (by decide) rfl (fun ls hl => ?_)
      refine lv_aload hx hb dX3_copy_19 (lv_at hl 1 rfl) ?_
      refine lv_ifnull hx hb dX3_copy_21 ?_
      refine lv_aloadN hx hb dX3_copy_24 (lv_at hl 0 rfl) ?_
      refine lv_ifnonnullN hx hb dX3_copy_26 ?_
      refine lv_iconst (v := (-1 : Int32)) hx hb dX3_copy_29 (by decide) ?_
      have hF : f_X3_copy X x1 x2 x3 x4 x5 = ((-1 : Int32), (X_latestFault' X (0 : Int32))) := by rw [f_X3_copy, if_pos c_7, if_neg c_14]
      rw [hF]
      exact kr_i B hP hS rfl rfl dX3_copy_30
  · refine kc_V (As := [.int x1]) (rest := []) B (c_X3_sheetAt_none l D cI cO tF ad (X_latestFault' X (0 : Int32)) x1 c_7) (cwV 1 hts gX3_copy_X3_sheetAt rfl rfl rfl (by decide +kernel) ⟨Nat.le_of_ble_eq_true rfl, Nat.le_of_ble_eq_true rfl⟩) hP hD hS [0, 1, 2, 3, 4, 5, 6, 7, 8, 9, 10, 11, 12, 13, 14, 15, 16, 17, 18, 19, 20, 21] wX_subA (by decide) (w' := wX ad cI cO (X_latestFault' X (0 : Int32))) (wX_setA _) (wX_fst _) 0 3 rfl rfl rfl rfl hl.1 rfl (Nat.le_of_ble_eq_true rfl) dX3_copy_7 ⟨Nat.zero_le _, Nat.zero_le _⟩ (fun H locs hP hD hS => ?_)
    have hD : va_D A (wX ad cI cO (X_latestFault' X (0 : Int32))) := hD
    refine lv_astoreN (lv' := [(6, .null), (0, .ref (ad 0)), (1, .int x1), (2, .int x2), (3, .int x3), (4, .int x4), (5, .int x5)]) hx hb dX3_copy_10 hl (by decide) rfl (fun ls hl => ?_)
    refine lv_aload_n hx hb dX3_copy_12 rfl (lv_at hl 1 rfl) ?_
    refine lv_iload_n hx hb dX3_copy_13 rfl (lv_at hl 4 rfl) ?_
    by_cases c_14 : (0 : Int32) ≤ x3 ∧ x3 < (4 : Int32)
    · have hj_14 : x3.toNatClampNeg < 4 := sh_j c_14
      refine kc_V (As := [.int x3]) (rest := []) B (c_X3_sheetAt_some l D cI cO tF ad (X_latestFault' X (0 : Int32)) x3 c_14) (cwV 1 hts gX3_copy_X3_sheetAt rfl rfl rfl (by decide +kernel) ⟨Nat.le_of_ble_eq_true rfl, Nat.le_of_ble_eq_true rfl⟩) hP hD hS [0, 1, 2, 3, 4, 5, 6, 7, 8, 9, 10, 11, 12, 13, 14, 15, 16, 17, 18, 19, 20, 21] wX_subA (by decide) (w' := wX ad cI cO (X_latestFault' X (0 : Int32))) (wX_setA _) (wX_fst _) 0 3 rfl rfl rfl rfl hl.1 rfl (Nat.le_of_ble_eq_true rfl) dX3_copy_14 ⟨Nat.zero_le _, Nat.zero_le _⟩ (fun H locs hP hD hS => ?_)
      have hD : va_D A (wX ad cI cO (X_latestFault' X (0 : Int32))) := hD
      refine lv_astore (lv' := [(7, .ref (ad (14 + 2 * x3.toNatClampNeg))), (6, .null), (0, .ref (ad 0)), (1, .int x1), (2, .int x2), (3, .int x3), (4, .int x4), (5, .int x5)]) hx hb dX3_copy_17 hl (by decide) rfl (fun ls hl => ?_)
      refine lv_aloadN hx hb dX3_copy_19 (lv_at hl 1 rfl) ?_
      refine lv_ifnullN (tgt := 29) hx hb dX3_copy_21 (by decide) ?_
      refine lv_iconst (v := (-1 : Int32)) hx hb dX3_copy_29 (by decide) ?_
      have hF : f_X3_copy X x1 x2 x3 x4 x5 = ((-1 : Int32), (X_latestFault' X (0 : Int32))) := by rw [f_X3_copy, if_neg c_7, if_pos c_14]
      rw [hF]
      exact kr_i B hP hS rfl rfl dX3_copy_30
    · refine kc_V (As := [.int x3]) (rest := []) B (c_X3_sheetAt_none l D cI cO tF ad (X_latestFault' X (0 : Int32)) x3 c_14) (cwV 1 hts gX3_copy_X3_sheetAt rfl rfl rfl (by decide +kernel) ⟨Nat.le_of_ble_eq_true rfl, Nat.le_of_ble_eq_true rfl⟩) hP hD hS [0, 1, 2, 3, 4, 5, 6, 7, 8, 9, 10, 11, 12, 13, 14, 15, 16, 17, 18, 19, 20, 21] wX_subA (by decide) (w' := wX ad cI cO (X_latestFault' X (0 : Int32))) (wX_setA _) (wX_fst _) 0 3 rfl rfl rfl rfl hl.1 rfl (Nat.le_of_ble_eq_true rfl) dX3_copy_14 ⟨Nat.zero_le _, Nat.zero_le _⟩ (fun H locs hP hD hS => ?_)
      have hD : va_D A (wX ad cI cO (X_latestFault' X (0 : Int32))) := hD
      refine lv_astoreN (lv' := [(7, .null), (6, .null), (0, .ref (ad 0)), (1, .int x1), (2, .int x2), (3, .int x3), (4, .int x4), (5, .int x5)]) hx hb dX3_copy_17 hl (by decide) rfl (fun ls hl => ?_)
      refine lv_aloadN hx hb dX3_copy_19 (lv_at hl 1 rfl) ?_
      refine lv_ifnullN (tgt := 29) hx hb dX3_copy_21 (by decide) ?_
      refine lv_iconst (v := (-1 : Int32)) hx hb dX3_copy_29 (by decide) ?_
      have hF : f_X3_copy X x1 x2 x3 x4 x5 = ((-1 : Int32), (X_latestFault' X (0 : Int32))) := by rw [f_X3_copy, if_neg c_7, if_neg c_14]
      rw [hF]
      exact kr_i B hP hS rfl rfl dX3_copy_30
def fL_X3_firstFaultOf_2 (S : SH) (x1 : Int32) (x2 : Int32) : Nat → Int32 → Int32
  | 0, _ => 0
  | k + 1, x3 => (if x2 ≤ x3 then (if x2 < (15 : Int32) then x2 else (if ((x2 - (3 : Int32)) - (x2 - (3 : Int32)) / (6 : Int32) * (6 : Int32)) = 0 then (-9 : Int32) else x2)) else (if (f_X3_goesOn x3 (f_X1_at S (x1 + x3))) = 0 then x3 else fL_X3_firstFaultOf_2 S x1 x2 k (x3 + (1 : Int32))))
def f_X3_firstFaultOf (S : SH) (x1 : Int32) (x2 : Int32) : Int32 := fL_X3_firstFaultOf_2 S x1 x2 (x2.toInt.toNat + 1) (0 : Int32)
set_option maxHeartbeats 4000000 in
set_option maxRecDepth 100000 in
theorem L_X3_firstFaultOf_2 {p : Program} (l : Launch) {e : Env} {s : State} {m : MethodId} {args : Array Value} {below : List Frame} {meth : Method} {c : Code} {A : Nat → Prop} (D : va_G) (cI cO : ClassId) (tF : Nat) (a0 a1 : Nat) (S : SH) (x1 : Int32) (x2 : Int32) (B : Bx p s m args meth c cX3_firstFaultOf 4 (some .int) wsX3_firstFaultOf RX3 D cI cO tF A) : ∀ (k : Nat) (x3 : Int32), (0 ≤ x3.toInt) → ((x2.toInt - x3.toInt).toNat < k) → ∀ (H : Heap) (locs : List Loc), va_P D vwCl (wS a0 a1 cI S) H → va_D A (wS a0 a1 cI S) → va_S A s.heap H locs → ∀ ls : Array Slot, lv_has ls 4 [(0, .ref a0), (1, .int x1), (2, .int x2), (3, .int x3)] → W p l e ({ frames := 3, cells := 0, slots := 0, locals := 64 }) s m args below meth c H locs 0 0 (MQ below (Qp D (some (.int (fL_X3_firstFaultOf_2 S x1 x2 k x3))) (wS a0 a1 cI S) A) args s 0 0 A) (F0 m 2 ls []) := by
  obtain ⟨hx, hb, hret, hml, hts, hown, hlocks, hE, hA⟩ := id B
  have hK := hE.1
  intro k
  induction k with
  | zero =>
    intro x3 h0 hk
    exact absurd hk (Nat.not_lt_zero _)
  | succ k ih =>
    intro x3 h0 hk H locs hP hD hS ls hl
    refine lv_iload_n hx hb dX3_firstFaultOf_2 rfl (lv_at hl 3 rfl) ?_
    refine lv_iload_n hx hb dX3_firstFaultOf_3 rfl (lv_at hl 2 rfl) ?_
    refine lv_icmp_ge (tgt := 29) hx hb dX3_firstFaultOf_4 (by decide) (fun c_4 => ?_) (fun c_4 => ?_)
    · refine lv_iload_n hx hb dX3_firstFaultOf_29 rfl (lv_at hl 2 rfl) ?_
      refine lv_bipush (v := (15 : Int32)) hx hb dX3_firstFaultOf_30 (by decide) ?_
      refine lv_icmp_lt (tgt := 48) hx hb dX3_firstFaultOf_32 (by decide) (fun c_32 => ?_) (fun c_32 => ?_)
      · refine lv_iconst (v := (0 : Int32)) hx hb dX3_firstFaultOf_48 (by decide) ?_
        refine lv_istore_n (lv' := [(3, .int (0 : Int32)), (0, .ref a0), (1, .int x1), (2, .int x2)]) hx hb dX3_firstFaultOf_49 rfl hl (by decide) rfl (fun ls hl => ?_)
        refine lv_iload_n hx hb dX3_firstFaultOf_50 rfl (lv_at hl 0 rfl) ?_
        refine lv_if_eq (tgt := 59) hx hb dX3_firstFaultOf_51 (by decide) (fun _ => ?_) (fun h => absurd h (by decide))
        refine lv_iload_n hx hb dX3_firstFaultOf_59 rfl (lv_at hl 3 rfl) ?_
        have hF : fL_X3_firstFaultOf_2 S x1 x2 (k + 1) x3 = x2 := by rw [fL_X3_firstFaultOf_2, if_pos c_4, if_pos c_32]
        rw [hF]
        exact kr_i B hP hS rfl rfl dX3_firstFaultOf_60
      · refine lv_iload_n hx hb dX3_firstFaultOf_35 rfl (lv_at hl 2 rfl) ?_
        refine lv_iconst (v := (3 : Int32)) hx hb dX3_firstFaultOf_36 (by decide) ?_
        refine lv_isub hx hb dX3_firstFaultOf_37 ?_
        refine lv_bipush (v := (6 : Int32)) hx hb dX3_firstFaultOf_38 (by decide) ?_
        refine lv_irem hx hb dX3_firstFaultOf_40 (by decide) ?_
        refine lv_if_ne (tgt := 48) hx hb dX3_firstFaultOf_41 (by decide) (fun c_41 => ?_) (fun c_41 => ?_)
        · refine lv_iconst (v := (0 : Int32)) hx hb dX3_firstFaultOf_48 (by decide) ?_
          refine lv_istore_n (lv' := [(3, .int (0 : Int32)), (0, .ref a0), (1, .int x1), (2, .int x2)]) hx hb dX3_firstFaultOf_49 rfl hl (by decide) rfl (fun ls hl => ?_)
          refine lv_iload_n hx hb dX3_firstFaultOf_50 rfl (lv_at hl 0 rfl) ?_
          refine lv_if_eq (tgt := 59) hx hb dX3_firstFaultOf_51 (by decide) (fun _ => ?_) (fun h => absurd h (by decide))
          refine lv_iload_n hx hb dX3_firstFaultOf_59 rfl (lv_at hl 3 rfl) ?_
          have hF : fL_X3_firstFaultOf_2 S x1 x2 (k + 1) x3 = x2 := by rw [fL_X3_firstFaultOf_2, if_pos c_4, if_neg c_32, if_neg c_41]
          rw [hF]
          exact kr_i B hP hS rfl rfl dX3_firstFaultOf_60
        · refine lv_iconst (v := (1 : Int32)) hx hb dX3_firstFaultOf_44 (by decide) ?_
          refine lv_goto (tgt := 49) hx hb dX3_firstFaultOf_45 (by decide) ?_
          refine lv_istore_n (lv' := [(3, .int (1 : Int32)), (0, .ref a0), (1, .int x1), (2, .int x2)]) hx hb dX3_firstFaultOf_49 rfl hl (by decide) rfl (fun ls hl => ?_)
          refine lv_iload_n hx hb dX3_firstFaultOf_50 rfl (lv_at hl 0 rfl) ?_
          refine lv_if_eq (tgt := 59) hx hb dX3_firstFaultOf_51 (by decide) (fun h => absurd h (by decide)) (fun _ => ?_)
          refine lv_bipush (v := (-9 : Int32)) hx hb dX3_firstFaultOf_54 (by decide) ?_
          refine lv_goto (tgt := 60) hx hb dX3_firstFaultOf_56 (by decide) ?_
          have hF : fL_X3_firstFaultOf_2 S x1 x2 (k + 1) x3 = (-9 : Int32) := by rw [fL_X3_firstFaultOf_2, if_pos c_4, if_neg c_32, if_pos c_41]
          rw [hF]
          exact kr_i B hP hS rfl rfl dX3_firstFaultOf_60
    · refine lv_iload_n hx hb dX3_firstFaultOf_7 rfl (lv_at hl 3 rfl) ?_
      refine lv_aload_n hx hb dX3_firstFaultOf_8 rfl (lv_at hl 0 rfl) ?_
      refine lv_iload_n hx hb dX3_firstFaultOf_9 rfl (lv_at hl 1 rfl) ?_
      refine lv_iload_n hx hb dX3_firstFaultOf_10 rfl (lv_at hl 3 rfl) ?_
      refine lv_iadd hx hb dX3_firstFaultOf_11 ?_
      refine kc_V (As := [.int (x1 + x3)]) (rest := [.int x3]) B (c_X1_at l D cI cO tF a0 a1 S (x1 + x3) ) (cwV 1 hts gX3_firstFaultOf_X1_at rfl rfl rfl (by decide +kernel) ⟨Nat.le_of_ble_eq_true rfl, Nat.le_of_ble_eq_true rfl⟩) hP hD hS [0, 1] rfl (by decide) (w' := wS a0 a1 cI S) rfl rfl 0 1 rfl rfl rfl rfl hl.1 rfl (Nat.le_of_ble_eq_true rfl) dX3_firstFaultOf_12 ⟨Nat.zero_le _, Nat.zero_le _⟩ (fun H locs hP hD hS => ?_)
      have hD : va_D A (wS a0 a1 cI S) := hD
      refine kc_S (As := [.int x3, .int (f_X1_at S (x1 + x3))]) (rest := []) B (c_X3_goesOn l D cI cO tF x3 (f_X1_at S (x1 + x3)) ) (va_cwS 2 hts gX3_firstFaultOf_X3_goesOn rfl rfl rfl (by decide +kernel) ⟨Nat.le_of_ble_eq_true rfl, Nat.le_of_ble_eq_true rfl⟩) hP hD hS [] rfl (by decide) (w' := wS a0 a1 cI S) rfl rfl rfl hl.1 rfl (Nat.le_of_ble_eq_true rfl) dX3_firstFaultOf_15 ⟨Nat.zero_le _, Nat.zero_le _⟩ (fun H locs hP hD hS => ?_)
      have hD : va_D A (wS a0 a1 cI S) := hD
      refine lv_if_ne (tgt := 23) hx hb dX3_firstFaultOf_18 (by decide) (fun c_18 => ?_) (fun c_18 => ?_)
      · refine lv_iinc (v := (x3 + (1 : Int32))) (lv' := [(3, .int (x3 + (1 : Int32))), (0, .ref a0), (1, .int x1), (2, .int x2)]) hx hb dX3_firstFaultOf_23 hl (k := 3) rfl rfl (by decide) rfl (fun ls hl => ?_)
        refine lv_goto (tgt := 2) hx hb dX3_firstFaultOf_26 (by decide) ?_
        have hF : fL_X3_firstFaultOf_2 S x1 x2 (k + 1) x3 = fL_X3_firstFaultOf_2 S x1 x2 k (x3 + (1 : Int32)) := by rw [fL_X3_firstFaultOf_2, if_neg c_4, if_neg c_18]
        rw [hF]
        exact ih (x3 + (1 : Int32)) (lp_pre h0 c_4) (lp_mu h0 c_4 hk) _ _ hP hD hS ls (lv_sub hl [1, 2, 3, 0] rfl)
      · refine lv_iload_n hx hb dX3_firstFaultOf_21 rfl (lv_at hl 3 rfl) ?_
        have hF : fL_X3_firstFaultOf_2 S x1 x2 (k + 1) x3 = x3 := by rw [fL_X3_firstFaultOf_2, if_neg c_4, if_pos c_18]
        rw [hF]
        exact kr_i B hP hS rfl rfl dX3_firstFaultOf_22
set_option maxHeartbeats 4000000 in
set_option maxRecDepth 100000 in
theorem c_X3_firstFaultOf (l : Launch) (D : va_G) (cI cO : ClassId) (tF : Nat) (a0 a1 : Nat) (S : SH) (x1 : Int32) (x2 : Int32) : Ct l yX3_firstFaultOf wsX3_firstFaultOf ({ frames := 3, cells := 0, slots := 0, locals := 64 }) D cI cO tF [.ref a0, .int x1, .int x2] (wS a0 a1 cI S) (some (.int (f_X3_firstFaultOf S x1 x2))) (wS a0 a1 cI S) := by
  refine Ct.of (cc := cX3_firstFaultOf) (maxL := 4) (ret := (some .int)) (own := RX3) (by decide) rfl rfl (Nat.le_of_ble_eq_true rfl) ?_
  intro p e s m args below meth c A ls B hP hD hS hl
  obtain ⟨hx, hb, hret, hml, hts, hown, hlocks, hE, hA⟩ := id B
  have hK := hE.1
  have hl : lv_has ls 4 [(0, .ref a0), (1, .int x1), (2, .int x2)] := hl
  refine lv_iconst (v := (0 : Int32)) hx hb dX3_firstFaultOf_0 (by decide) ?_
  refine lv_istore_n (lv' := [(3, .int (0 : Int32)), (0, .ref a0), (1, .int x1), (2, .int x2)]) hx hb dX3_firstFaultOf_1 rfl hl (by decide) rfl (fun ls hl => ?_)
  have hF : f_X3_firstFaultOf S x1 x2 = fL_X3_firstFaultOf_2 S x1 x2 (x2.toInt.toNat + 1) (0 : Int32) := by rw [f_X3_firstFaultOf]
  rw [hF]
  exact L_X3_firstFaultOf_2 l D cI cO tF a0 a1 S x1 x2  B  (x2.toInt.toNat + 1) (0 : Int32) (Int.le_refl _) (by rw [show (0 : Int32).toInt = 0 from rfl]; omega) _ _ hP hD hS ls (lv_sub hl [1, 2, 3, 0] rfl)
def f_X3_town (X : XS) (x1 : Int32) (x2 : Int32) (x3 : Int32) (x4 : Int32) : Int32 × XS := (if (0 : Int32) ≤ x1 ∧ x1 < (4 : Int32) then (if (f_X3_isLane x2) = 0 then ((-2 : Int32), (X_latestFault' X (0 : Int32))) else (if (f_X1_faultOf ((X_sheets X) x1.toNatClampNeg) x2 x3 x4) = 0 then (if (f_X3_firstFaultOf ((X_sheets X) x1.toNatClampNeg) x3 x4) = (-9 : Int32) then ((T_count (f_X2_become (X_now X) ((X_sheets X) x1.toNatClampNeg) x3 x4)), (X_daysGone' (X_said' (X_now' (X_latestFault' X (0 : Int32)) (f_X2_become (X_now X) ((X_sheets X) x1.toNatClampNeg) x3 x4)) (R_count' (X_said X) (0 : Int32))) (0 : Int32))) else (((-100 : Int32) - (f_X3_firstFaultOf ((X_sheets X) x1.toNatClampNeg) x3 x4)), (X_latestFault' X (0 : Int32)))) else ((f_X3_faulty (X_latestFault' X (0 : Int32)) (f_X1_faultOf ((X_sheets X) x1.toNatClampNeg) x2 x3 x4)).1, (f_X3_faulty (X_latestFault' X (0 : Int32)) (f_X1_faultOf ((X_sheets X) x1.toNatClampNeg) x2 x3 x4)).2))) else ((-1 : Int32), (X_latestFault' X (0 : Int32))))
theorem iw_X3_town_0 : ∀ w ∈ wsX00, w ∈ wsX3_town := fun _ h => List.mem_cons_of_mem _ (List.mem_append_left _ (List.mem_append_left _ (List.mem_append_right _ h)))
theorem iw_X3_town_2 : ∀ w ∈ wsX20, w ∈ wsX3_town := fun _ h => List.mem_cons_of_mem _ (List.mem_append_left _ (List.mem_append_right _ h))
theorem iw_X3_town_3 : ∀ w ∈ wsX30, w ∈ wsX3_town := fun _ h => List.mem_cons_of_mem _ (List.mem_append_left _ (List.mem_append_left _ (List.mem_append_left _ (List.mem_append_right _ h))))
set_option maxHeartbeats 4000000 in
set_option maxRecDepth 100000 in
theorem c_X3_town (l : Launch) (D : va_G) (cI cO : ClassId) (tF : Nat) (ad : Nat → Nat) (X : XS) (x1 : Int32) (x2 : Int32) (x3 : Int32) (x4 : Int32) : Ct l yX3_town wsX3_town ({ frames := 4, cells := 0, slots := 0, locals := 87 }) D cI cO tF [.ref (ad 0), .int x1, .int x2, .int x3, .int x4] (wX ad cI cO X) (some (.int ((f_X3_town X x1 x2 x3 x4).1))) (wX ad cI cO ((f_X3_town X x1 x2 x3 x4).2)) := by
  refine Ct.of (cc := cX3_town) (maxL := 8) (ret := (some .int)) (own := RX3) (by decide) rfl rfl (Nat.le_of_ble_eq_true rfl) ?_
  intro p e s m args below meth c A ls B hP hD hS hl
  obtain ⟨hx, hb, hret, hml, hts, hown, hlocks, hE, hA⟩ := id B
  have hK := hE.1
  have hl : lv_has ls 8 [(0, .ref (ad 0)), (1, .int x1), (2, .int x2), (3, .int x3), (4, .int x4)] := hl
  refine lv_aload_n hx hb dX3_town_0 rfl (lv_at hl 0 rfl) ?_
  refine lv_iconst (v := (0 : Int32)) hx hb dX3_town_1 (by decide) ?_
  refine va_put (D := D) (ci := 3) (v := .int (0 : Int32)) (ty := .int) (C := RX3) (T := TX3) (N := 7) hx hb hts iw_X3_town_3 tyX3 tyX3_ok nmX3 hown hK hP hD hS 0 rfl rfl 6 (by decide) (hts (.fieldLink RX3 35 "TownLisp" "latestFault" "I") (by decide +kernel)) (fun _ h9 => h9) rfl (by decide +kernel) rfl rfl (Nat.le_of_ble_eq_true rfl) dX3_town_2 (fun H locs hP hD hS => ?_)
  have hP : va_P D vwCl (wX ad cI cO (X_latestFault' X (0 : Int32))) H := hP
  have hD : va_D A (wX ad cI cO (X_latestFault' X (0 : Int32))) := hD
  refine lv_aload_n hx hb dX3_town_5 rfl (lv_at hl 0 rfl) ?_
  refine lv_iload_n hx hb dX3_town_6 rfl (lv_at hl 1 rfl) ?_
  by_cases c_7 : (0 : Int32) ≤ x1 ∧ x1 < (4 : Int32)
  · have hj_7 : x1.toNatClampNeg < 4 := sh_j c_7
    refine kc_V (As := [.int x1]) (rest := []) B (c_X3_sheetAt_some l D cI cO tF ad (X_latestFault' X (0 : Int32)) x1 c_7) (cwV 1 hts gX3_town_X3_sheetAt rfl rfl rfl (by decide +kernel) ⟨Nat.le_of_ble_eq_true rfl, Nat.le_of_ble_eq_true rfl⟩) hP hD hS [0, 1, 2, 3, 4, 5, 6, 7, 8, 9, 10, 11, 12, 13, 14, 15, 16, 17, 18, 19, 20, 21] wX_subA (by decide) (w' := wX ad cI cO (X_latestFault' X (0 : Int32))) (wX_setA _) (wX_fst _) 0 3 rfl rfl rfl rfl hl.1 rfl (Nat.le_of_ble_eq_true rfl) dX3_town_7 ⟨Nat.zero_le _, Nat.zero_le _⟩ (fun H locs hP hD hS => ?_)
    have hD : va_D A (wX ad cI cO (X_latestFault' X (0 : Int32))) := hD
    refine lv_astore (lv' := [(5, .ref (ad (14 + 2 * x1.toNatClampNeg))), (0, .ref (ad 0)), (1, .int x1), (2, .int x2), (3, .int x3), (4, .int x4)]) hx hb dX3_town_10 hl (by decide) rfl (fun ls hl => ?_)
    refine lv_aload hx hb dX3_town_12 (lv_at hl 0 rfl) ?_
    refine lv_ifnonnull (tgt := 19) hx hb dX3_town_14 (by decide) ?_
    refine lv_iload_n hx hb dX3_town_19 rfl (lv_at hl 3 rfl) ?_
    refine kc_S (As := [.int x2]) (rest := []) B (c_X3_isLane l D cI cO tF x2 ) (va_cwS 1 hts gX3_town_X3_isLane rfl rfl rfl (by decide +kernel) ⟨Nat.le_of_ble_eq_true rfl, Nat.le_of_ble_eq_true rfl⟩) hP hD hS [] rfl (by decide) (w' := wX ad cI cO (X_latestFault' X (0 : Int32))) rfl rfl rfl hl.1 rfl (Nat.le_of_ble_eq_true rfl) dX3_town_20 ⟨Nat.zero_le _, Nat.zero_le _⟩ (fun H locs hP hD hS => ?_)
    have hD : va_D A (wX ad cI cO (X_latestFault' X (0 : Int32))) := hD
    refine lv_if_ne (tgt := 29) hx hb dX3_town_23 (by decide) (fun c_23 => ?_) (fun c_23 => ?_)
    · refine lv_aload hx hb dX3_town_29 (lv_at hl 0 rfl) ?_
      refine lv_iload_n hx hb dX3_town_31 rfl (lv_at hl 3 rfl) ?_
      refine lv_iload_n hx hb dX3_town_32 rfl (lv_at hl 4 rfl) ?_
      refine lv_iload hx hb dX3_town_33 (lv_at hl 5 rfl) ?_
      refine kc_V (As := [.int x2, .int x3, .int x4]) (rest := []) B (c_X1_faultOf l D cI cO tF (ad (14 + 2 * x1.toNatClampNeg)) (ad (15 + 2 * x1.toNatClampNeg)) ((X_sheets X) x1.toNatClampNeg) x2 x3 x4 ) (cwV 3 hts gX3_town_X1_faultOf rfl rfl rfl (by decide +kernel) ⟨Nat.le_of_ble_eq_true rfl, Nat.le_of_ble_eq_true rfl⟩) hP hD hS [14 + 2 * x1.toNatClampNeg, 15 + 2 * x1.toNatClampNeg] (wX_subC hj_7) (nd_s _) (w' := wX ad cI cO (X_latestFault' X (0 : Int32))) (wX_same hj_7) rfl (14 + 2 * x1.toNatClampNeg) 1 rfl (wX_sheet hj_7) rfl rfl hl.1 rfl (Nat.le_of_ble_eq_true rfl) dX3_town_35 ⟨Nat.zero_le _, Nat.zero_le _⟩ (fun H locs hP hD hS => ?_)
      have hD : va_D A (wX ad cI cO (X_latestFault' X (0 : Int32))) := hD
      refine lv_istore (lv' := [(6, .int (f_X1_faultOf ((X_sheets X) x1.toNatClampNeg) x2 x3 x4)), (5, .ref (ad (14 + 2 * x1.toNatClampNeg))), (0, .ref (ad 0)), (1, .int x1), (2, .int x2), (3, .int x3), (4, .int x4)]) hx hb dX3_town_38 hl (by decide) rfl (fun ls hl => ?_)
      refine lv_iload hx hb dX3_town_40 (lv_at hl 0 rfl) ?_
      refine lv_if_eq (tgt := 52) hx hb dX3_town_42 (by decide) (fun c_42 => ?_) (fun c_42 => ?_)
      · refine lv_aload hx hb dX3_town_52 (lv_at hl 1 rfl) ?_
        refine lv_iload_n hx hb dX3_town_54 rfl (lv_at hl 5 rfl) ?_
        refine lv_iload hx hb dX3_town_55 (lv_at hl 6 rfl) ?_
        refine kc_S (As := [.ref (ad (14 + 2 * x1.toNatClampNeg)), .int x3, .int x4]) (rest := []) B (c_X3_firstFaultOf l D cI cO tF (ad (14 + 2 * x1.toNatClampNeg)) (ad (15 + 2 * x1.toNatClampNeg)) ((X_sheets X) x1.toNatClampNeg) x3 x4 ) (va_cwS 3 hts gX3_town_X3_firstFaultOf rfl rfl rfl (by decide +kernel) ⟨Nat.le_of_ble_eq_true rfl, Nat.le_of_ble_eq_true rfl⟩) hP hD hS [14 + 2 * x1.toNatClampNeg, 15 + 2 * x1.toNatClampNeg] (wX_subC hj_7) (nd_s _) (w' := wX ad cI cO (X_latestFault' X (0 : Int32))) (wX_same hj_7) rfl rfl hl.1 rfl (Nat.le_of_ble_eq_true rfl) dX3_town_57 ⟨Nat.zero_le _, Nat.zero_le _⟩ (fun H locs hP hD hS => ?_)
        have hD : va_D A (wX ad cI cO (X_latestFault' X (0 : Int32))) := hD
        refine lv_istore (lv' := [(7, .int (f_X3_firstFaultOf ((X_sheets X) x1.toNatClampNeg) x3 x4)), (6, .int (f_X1_faultOf ((X_sheets X) x1.toNatClampNeg) x2 x3 x4)), (5, .ref (ad (14 + 2 * x1.toNatClampNeg))), (0, .ref (ad 0)), (1, .int x1), (2, .int x2), (3, .int x3), (4, .int x4)]) hx hb dX3_town_60 hl (by decide) rfl (fun ls hl => ?_)
        refine lv_iload hx hb dX3_town_62 (lv_at hl 0 rfl) ?_
        refine lv_bipush (v := (-9 : Int32)) hx hb dX3_town_64 (by decide) ?_
        refine lv_icmp_eq (tgt := 75) hx hb dX3_town_66 (by decide) (fun c_66 => ?_) (fun c_66 => ?_)
        · refine lv_aload_n hx hb dX3_town_75 rfl (lv_at hl 3 rfl) ?_
          refine va_get (D := D) (ci := 3) (v := .ref (ad 2)) (C := RX3) (T := TX3) (N := 7) hx hb hts iw_X3_town_3 hown hK hP 0 rfl rfl 1 (by decide) (hts (.fieldLink RX3 20 "TownLisp" "now" "LTownLisp$Town;") (by decide +kernel)) (fun _ h9 => h9) rfl dX3_town_76 ?_
          refine lv_aload hx hb dX3_town_79 (lv_at hl 2 rfl) ?_
          refine lv_iload_n hx hb dX3_town_81 rfl (lv_at hl 6 rfl) ?_
          refine lv_iload hx hb dX3_town_82 (lv_at hl 7 rfl) ?_
          refine kc_V (As := [.ref (ad (14 + 2 * x1.toNatClampNeg)), .int x3, .int x4]) (rest := []) B (c_X2_become l D cI cO tF (ad 2) (ad 3) (ad 4) (ad 5) (ad (14 + 2 * x1.toNatClampNeg)) (ad (15 + 2 * x1.toNatClampNeg)) (X_now X) ((X_sheets X) x1.toNatClampNeg) x3 x4 ) (cwV 3 hts gX3_town_X2_become rfl rfl rfl (by decide +kernel) ⟨Nat.le_of_ble_eq_true rfl, Nat.le_of_ble_eq_true rfl⟩) hP hD hS [2, 3, 4, 5, 14 + 2 * x1.toNatClampNeg, 15 + 2 * x1.toNatClampNeg] (wX_subTS hj_7) (nd_ts hj_7) (w' := wX ad cI cO (X_now' (X_latestFault' X (0 : Int32)) (f_X2_become (X_now X) ((X_sheets X) x1.toNatClampNeg) x3 x4))) (wX_setTS hj_7 _) rfl 2 2 rfl rfl rfl rfl hl.1 rfl (Nat.le_of_ble_eq_true rfl) dX3_town_84 ⟨Nat.zero_le _, Nat.zero_le _⟩ (fun H locs hP hD hS => ?_)
          have hD : va_D A (wX ad cI cO (X_now' (X_latestFault' X (0 : Int32)) (f_X2_become (X_now X) ((X_sheets X) x1.toNatClampNeg) x3 x4))) := hD
          refine lv_aload_n hx hb dX3_town_87 rfl (lv_at hl 3 rfl) ?_
          refine va_get (D := D) (ci := 3) (v := .ref (ad 10)) (C := RX3) (T := TX3) (N := 7) hx hb hts iw_X3_town_3 hown hK hP 0 rfl rfl 3 (by decide) (hts (.fieldLink RX3 30 "TownLisp" "said" "LTownLisp$Readings;") (by decide +kernel)) (fun _ h9 => h9) rfl dX3_town_88 ?_
          refine lv_iconst (v := (0 : Int32)) hx hb dX3_town_91 (by decide) ?_
          refine va_put (D := D) (ci := 0) (v := .int (0 : Int32)) (ty := .int) (C := RX0) (T := TX0) (N := 4) hx hb hts iw_X3_town_0 tyX0 tyX0_ok nmX0 hown hK hP hD hS 10 rfl rfl 3 (by decide) (hts (.fieldLink RX3 63 "TownLisp$Readings" "count" "I") (by decide +kernel)) (fun _ h9 => h9) rfl (by decide +kernel) rfl rfl (Nat.le_of_ble_eq_true rfl) dX3_town_92 (fun H locs hP hD hS => ?_)
          have hP : va_P D vwCl (wX ad cI cO (X_said' (X_now' (X_latestFault' X (0 : Int32)) (f_X2_become (X_now X) ((X_sheets X) x1.toNatClampNeg) x3 x4)) (R_count' (X_said X) (0 : Int32)))) H := hP
          have hD : va_D A (wX ad cI cO (X_said' (X_now' (X_latestFault' X (0 : Int32)) (f_X2_become (X_now X) ((X_sheets X) x1.toNatClampNeg) x3 x4)) (R_count' (X_said X) (0 : Int32)))) := hD
          refine lv_aload_n hx hb dX3_town_95 rfl (lv_at hl 3 rfl) ?_
          refine lv_iconst (v := (0 : Int32)) hx hb dX3_town_96 (by decide) ?_
          refine va_put (D := D) (ci := 3) (v := .int (0 : Int32)) (ty := .int) (C := RX3) (T := TX3) (N := 7) hx hb hts iw_X3_town_3 tyX3 tyX3_ok nmX3 hown hK hP hD hS 0 rfl rfl 4 (by decide) (hts (.fieldLink RX3 66 "TownLisp" "daysGone" "I") (by decide +kernel)) (fun _ h9 => h9) rfl (by decide +kernel) rfl rfl (Nat.le_of_ble_eq_true rfl) dX3_town_97 (fun H locs hP hD hS => ?_)
          have hP : va_P D vwCl (wX ad cI cO (X_daysGone' (X_said' (X_now' (X_latestFault' X (0 : Int32)) (f_X2_become (X_now X) ((X_sheets X) x1.toNatClampNeg) x3 x4)) (R_count' (X_said X) (0 : Int32))) (0 : Int32))) H := hP
          have hD : va_D A (wX ad cI cO (X_daysGone' (X_said' (X_now' (X_latestFault' X (0 : Int32)) (f_X2_become (X_now X) ((X_sheets X) x1.toNatClampNeg) x3 x4)) (R_count' (X_said X) (0 : Int32))) (0 : Int32))) := hD
          refine lv_aload_n hx hb dX3_town_100 rfl (lv_at hl 3 rfl) ?_
          refine va_get (D := D) (ci := 3) (v := .ref (ad 2)) (C := RX3) (T := TX3) (N := 7) hx hb hts iw_X3_town_3 hown hK hP 0 rfl rfl 1 (by decide) (hts (.fieldLink RX3 20 "TownLisp" "now" "LTownLisp$Town;") (by decide +kernel)) (fun _ h9 => h9) rfl dX3_town_101 ?_
          refine va_get (D := D) (ci := 2) (v := .int (T_count (f_X2_become (X_now X) ((X_sheets X) x1.toNatClampNeg) x3 x4))) (C := RX2) (T := TX2) (N := 6) hx hb hts iw_X3_town_2 hown hK hP 2 rfl rfl 3 (by decide) (hts (.fieldLink RX3 69 "TownLisp$Town" "count" "I") (by decide +kernel)) (fun _ h9 => h9) rfl dX3_town_104 ?_
          have hF : f_X3_town X x1 x2 x3 x4 = ((T_count (f_X2_become (X_now X) ((X_sheets X) x1.toNatClampNeg) x3 x4)), (X_daysGone' (X_said' (X_now' (X_latestFault' X (0 : Int32)) (f_X2_become (X_now X) ((X_sheets X) x1.toNatClampNeg) x3 x4)) (R_count' (X_said X) (0 : Int32))) (0 : Int32))) := by rw [f_X3_town, if_pos c_7, if_neg c_23, if_pos c_42, if_pos c_66]
          rw [hF]
          exact kr_i B hP hS rfl rfl dX3_town_107
        · refine lv_bipush (v := (-100 : Int32)) hx hb dX3_town_69 (by decide) ?_
          refine lv_iload hx hb dX3_town_71 (lv_at hl 0 rfl) ?_
          refine lv_isub hx hb dX3_town_73 ?_
          have hF : f_X3_town X x1 x2 x3 x4 = (((-100 : Int32) - (f_X3_firstFaultOf ((X_sheets X) x1.toNatClampNeg) x3 x4)), (X_latestFault' X (0 : Int32))) := by rw [f_X3_town, if_pos c_7, if_neg c_23, if_pos c_42, if_neg c_66]
          rw [hF]
          exact kr_i B hP hS rfl rfl dX3_town_74
      · refine lv_aload_n hx hb dX3_town_45 rfl (lv_at hl 2 rfl) ?_
        refine lv_iload hx hb dX3_town_46 (lv_at hl 0 rfl) ?_
        refine kc_V (As := [.int (f_X1_faultOf ((X_sheets X) x1.toNatClampNeg) x2 x3 x4)]) (rest := []) B (c_X3_faulty l D cI cO tF ad (X_latestFault' X (0 : Int32)) (f_X1_faultOf ((X_sheets X) x1.toNatClampNeg) x2 x3 x4) ) (cwV 1 hts gX3_town_X3_faulty rfl rfl rfl (by decide +kernel) ⟨Nat.le_of_ble_eq_true rfl, Nat.le_of_ble_eq_true rfl⟩) hP hD hS [0, 1, 2, 3, 4, 5, 6, 7, 8, 9, 10, 11, 12, 13, 14, 15, 16, 17, 18, 19, 20, 21] wX_subA (by decide) (w' := wX ad cI cO ((f_X3_faulty (X_latestFault' X (0 : Int32)) (f_X1_faultOf ((X_sheets X) x1.toNatClampNeg) x2 x3 x4)).2)) (wX_setA _) (wX_fst _) 0 3 rfl rfl rfl rfl hl.1 rfl (Nat.le_of_ble_eq_true rfl) dX3_town_48 ⟨Nat.zero_le _, Nat.zero_le _⟩ (fun H locs hP hD hS => ?_)
        have hD : va_D A (wX ad cI cO ((f_X3_faulty (X_latestFault' X (0 : Int32)) (f_X1_faultOf ((X_sheets X) x1.toNatClampNeg) x2 x3 x4)).2)) := hD
        have hF : f_X3_town X x1 x2 x3 x4 = ((f_X3_faulty (X_latestFault' X (0 : Int32)) (f_X1_faultOf ((X_sheets X) x1.toNatClampNeg) x2 x3 x4)).1, (f_X3_faulty (X_latestFault' X (0 : Int32)) (f_X1_faultOf ((X_sheets X) x1.toNatClampNeg) x2 x3 x4)).2) := by rw [f_X3_town, if_pos c_7, if_neg c_23, if_neg c_42]
        rw [hF]
        exact kr_i B hP hS rfl rfl dX3_town_51
    · refine lv_bipush (v := (-2 : Int32)) hx hb dX3_town_26 (by decide) ?_
      have hF : f_X3_town X x1 x2 x3 x4 = ((-2 : Int32), (X_latestFault' X (0 : Int32))) := by rw [f_X3_town, if_pos c_7, if_pos c_23]
      rw [hF]
      exact kr_i B hP hS rfl rfl dX3_town_28
  · refine kc_V (As := [.int x1]) (rest := []) B (c_X3_sheetAt_none l D cI cO tF ad (X_latestFault' X (0 : Int32)) x1 c_7) (cwV 1 hts gX3_town_X3_sheetAt rfl rfl rfl (by decide +kernel) ⟨Nat.le_of_ble_eq_true rfl, Nat.le_of_ble_eq_true rfl⟩) hP hD hS [0, 1, 2, 3, 4, 5, 6, 7, 8, 9, 10, 11, 12, 13, 14, 15, 16, 17, 18, 19, 20, 21] wX_subA (by decide) (w' := wX ad cI cO (X_latestFault' X (0 : Int32))) (wX_setA _) (wX_fst _) 0 3 rfl rfl rfl rfl hl.1 rfl (Nat.le_of_ble_eq_true rfl) dX3_town_7 ⟨Nat.zero_le _, Nat.zero_le _⟩ (fun H locs hP hD hS => ?_)
    have hD : va_D A (wX ad cI cO (X_latestFault' X (0 : Int32))) := hD
    refine lv_astoreN (lv' := [(5, .null), (0, .ref (ad 0)), (1, .int x1), (2, .int x2), (3, .int x3), (4, .int x4)]) hx hb dX3_town_10 hl (by decide) rfl (fun ls hl => ?_)
    refine lv_aloadN hx hb dX3_town_12 (lv_at hl 0 rfl) ?_
    refine lv_ifnonnullN hx hb dX3_town_14 ?_
    refine lv_iconst (v := (-1 : Int32)) hx hb dX3_town_17 (by decide) ?_
    have hF : f_X3_town X x1 x2 x3 x4 = ((-1 : Int32), (X_latestFault' X (0 : Int32))) := by rw [f_X3_town, if_neg c_7]
    rw [hF]
    exact kr_i B hP hS rfl rfl dX3_town_18
