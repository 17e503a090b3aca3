def f_X4_town (M : MS) (x1 : Int32) (x2 : Int32) (x3 : Int32) (x4 : Int32) : Int32 × MS := (if (f_X4_isSheet x1) = 0 then ((-1 : Int32), (M_fault' M (0 : Int32))) else (if (f_X4_isSort x2) = 0 then ((-2 : Int32), (M_fault' M (0 : Int32))) else (if (f_X4_against (M_fault' M (0 : Int32)) x1 x2 x3 x4) = 0 then (if (f_X4_readTown (M_at' (M_fault' M (0 : Int32)) (((60 : Int32) * x1) + x3)) ((((60 : Int32) * x1) + x3) + x4)).1 = 0 then (((-100 : Int32) - ((M_at (f_X4_readTown (M_at' (M_fault' M (0 : Int32)) (((60 : Int32) * x1) + x3)) ((((60 : Int32) * x1) + x3) + x4)).2) - (((60 : Int32) * x1) + x3))), (f_X4_readTown (M_at' (M_fault' M (0 : Int32)) (((60 : Int32) * x1) + x3)) ((((60 : Int32) * x1) + x3) + x4)).2) else ((M_people (f_X4_takeTown ((f_X4_readTown (M_at' (M_fault' M (0 : Int32)) (((60 : Int32) * x1) + x3)) ((((60 : Int32) * x1) + x3) + x4)).2))), (f_X4_takeTown ((f_X4_readTown (M_at' (M_fault' M (0 : Int32)) (((60 : Int32) * x1) + x3)) ((((60 : Int32) * x1) + x3) + x4)).2)))) else ((f_X4_fails (M_fault' M (0 : Int32)) (f_X4_against (M_fault' M (0 : Int32)) x1 x2 x3 x4)).1, (f_X4_fails (M_fault' M (0 : Int32)) (f_X4_against (M_fault' M (0 : Int32)) x1 x2 x3 x4)).2))))
theorem iw_X4_town_4 : ∀ w ∈ wsX40, w ∈ wsX4_town := fun _ h => List.mem_cons_of_mem _ (List.mem_append_right _ h)
set_option maxHeartbeats 4000000 in
set_option maxRecDepth 100000 in
theorem c_X4_town (l : Launch) (D : va_G) (cI cO : ClassId) (tF : Nat) (ad : Nat → Nat) (M : MS) (x1 : Int32) (x2 : Int32) (x3 : Int32) (x4 : Int32) (hL : ∀ i : Nat, i < 4 → 0 ≤ (M_sheetLong M i).toInt ∧ (M_sheetLong M i).toInt ≤ 60) : Ct l yX4_town wsX4_town ({ frames := 5, cells := 0, slots := 0, locals := 113 }) D cI cO tF [.ref (ad 0), .int x1, .int x2, .int x3, .int x4] (wM ad cI M) (some (.int ((f_X4_town M x1 x2 x3 x4).1))) (wM ad cI ((f_X4_town M x1 x2 x3 x4).2)) := by
  refine Ct.of (cc := cX4_town) (maxL := 7) (ret := (some .int)) (own := RX4) (by decide) rfl rfl (Nat.le_of_ble_eq_true rfl) ?_
  intro p e s m args below meth c A ls B hP hD hS hl
  obtain ⟨hx, hb, hret, hml, hts, hown, hlocks, hE, hA⟩ := id B
  have hK := hE.1
  have hl : lv_has ls 7 [(0, .ref (ad 0)), (1, .int x1), (2, .int x2), (3, .int x3), (4, .int x4)] := hl
  refine lv_aload_n hx hb dX4_town_0 rfl (lv_at hl 0 rfl) ?_
  refine lv_iconst (v := (0 : Int32)) hx hb dX4_town_1 (by decide) ?_
  refine va_put (D := D) (ci := 4) (v := .int (0 : Int32)) (ty := .int) (C := RX4) (T := TX4) (N := 24) hx hb hts iw_X4_town_4 tyX4 tyX4_ok nmX4 hown hK hP hD hS 0 rfl rfl 0 (by decide) (hts (.fieldLink RX4 46 "TownLispModel" "fault" "I") (by decide +kernel)) (fun _ h9 => h9) rfl (by decide +kernel) rfl rfl (Nat.le_of_ble_eq_true rfl) dX4_town_2 (fun H locs hP hD hS => ?_)
  have hP : va_P D vwCl (wM ad cI (M_fault' M (0 : Int32))) H := hP
  have hD : va_D A (wM ad cI (M_fault' M (0 : Int32))) := hD
  refine lv_iload_n hx hb dX4_town_5 rfl (lv_at hl 1 rfl) ?_
  refine kc_S (As := [.int x1]) (rest := []) B (c_X4_isSheet l D cI cO tF x1 ) (va_cwS 1 hts gX4_town_X4_isSheet rfl rfl rfl (by decide +kernel) ⟨Nat.le_of_ble_eq_true rfl, Nat.le_of_ble_eq_true rfl⟩) hP hD hS [] rfl (by decide) (w' := wM ad cI (M_fault' M (0 : Int32))) rfl rfl rfl hl.1 rfl (Nat.le_of_ble_eq_true rfl) dX4_town_6 ⟨Nat.zero_le _, Nat.zero_le _⟩ (fun H locs hP hD hS => ?_)
  have hD : va_D A (wM ad cI (M_fault' M (0 : Int32))) := hD
  refine lv_if_ne (tgt := 14) hx hb dX4_town_9 (by decide) (fun c_9 => ?_) (fun c_9 => ?_)
  · refine lv_iload_n hx hb dX4_town_14 rfl (lv_at hl 2 rfl) ?_
    refine kc_S (As := [.int x2]) (rest := []) B (c_X4_isSort l D cI cO tF x2 ) (va_cwS 1 hts gX4_town_X4_isSort rfl rfl rfl (by decide +kernel) ⟨Nat.le_of_ble_eq_true rfl, Nat.le_of_ble_eq_true rfl⟩) hP hD hS [] rfl (by decide) (w' := wM ad cI (M_fault' M (0 : Int32))) rfl rfl rfl hl.1 rfl (Nat.le_of_ble_eq_true rfl) dX4_town_15 ⟨Nat.zero_le _, Nat.zero_le _⟩ (fun H locs hP hD hS => ?_)
    have hD : va_D A (wM ad cI (M_fault' M (0 : Int32))) := hD
    refine lv_if_ne (tgt := 24) hx hb dX4_town_18 (by decide) (fun c_18 => ?_) (fun c_18 => ?_)
    · refine lv_aload_n hx hb dX4_town_24 rfl (lv_at hl 0 rfl) ?_
      refine lv_iload_n hx hb dX4_town_25 rfl (lv_at hl 1 rfl) ?_
      refine lv_iload_n hx hb dX4_town_26 rfl (lv_at hl 2 rfl) ?_
      refine lv_iload_n hx hb dX4_town_27 rfl (lv_at hl 3 rfl) ?_
      refine lv_iload hx hb dX4_town_28 (lv_at hl 4 rfl) ?_
      refine kc_V (As := [.int x1, .int x2, .int x3, .int x4]) (rest := []) B (c_X4_against l D cI cO tF ad (M_fault' M (0 : Int32)) x1 x2 x3 x4 (sh_in c_9)) (cwV 4 hts gX4_town_X4_against rfl rfl rfl (by decide +kernel) ⟨Nat.le_of_ble_eq_true rfl, Nat.le_of_ble_eq_true rfl⟩) hP hD hS [0, 1, 2, 3, 4, 5, 6, 7, 8, 9, 10, 11, 12] wM_subA (by decide) (w' := wM ad cI (M_fault' M (0 : Int32))) (wM_setA _) (wM_fst _) 0 4 rfl rfl rfl rfl hl.1 rfl (Nat.le_of_ble_eq_true rfl) dX4_town_30 ⟨Nat.zero_le _, Nat.zero_le _⟩ (fun H locs hP hD hS => ?_)
      have hD : va_D A (wM ad cI (M_fault' M (0 : Int32))) := hD
      refine lv_istore (lv' := [(5, .int (f_X4_against (M_fault' M (0 : Int32)) x1 x2 x3 x4)), (0, .ref (ad 0)), (1, .int x1), (2, .int x2), (3, .int x3), (4, .int x4)]) hx hb dX4_town_33 hl (by decide) rfl (fun ls hl => ?_)
      refine lv_iload hx hb dX4_town_35 (lv_at hl 0 rfl) ?_
      refine lv_if_eq (tgt := 47) hx hb dX4_town_37 (by decide) (fun c_37 => ?_) (fun c_37 => ?_)
      · refine lv_bipush (v := (60 : Int32)) hx hb dX4_town_47 (by decide) ?_
        refine lv_iload_n hx hb dX4_town_49 rfl (lv_at hl 2 rfl) ?_
        refine lv_imul hx hb dX4_town_50 ?_
        refine lv_iload_n hx hb dX4_town_51 rfl (lv_at hl 4 rfl) ?_
        refine lv_iadd hx hb dX4_town_52 ?_
        refine lv_istore (lv' := [(6, .int (((60 : Int32) * x1) + x3)), (5, .int (f_X4_against (M_fault' M (0 : Int32)) x1 x2 x3 x4)), (0, .ref (ad 0)), (1, .int x1), (2, .int x2), (3, .int x3), (4, .int x4)]) hx hb dX4_town_53 hl (by decide) rfl (fun ls hl => ?_)
        refine lv_aload_n hx hb dX4_town_55 rfl (lv_at hl 2 rfl) ?_
        refine lv_iload hx hb dX4_town_56 (lv_at hl 0 rfl) ?_
        refine va_put (D := D) (ci := 4) (v := .int (((60 : Int32) * x1) + x3)) (ty := .int) (C := RX4) (T := TX4) (N := 24) hx hb hts iw_X4_town_4 tyX4 tyX4_ok nmX4 hown hK hP hD hS 0 rfl rfl 12 (by decide) (hts (.fieldLink RX4 59 "TownLispModel" "at" "I") (by decide +kernel)) (fun _ h9 => h9) rfl (by decide +kernel) rfl rfl (Nat.le_of_ble_eq_true rfl) dX4_town_58 (fun H locs hP hD hS => ?_)
        have hP : va_P D vwCl (wM ad cI (M_at' (M_fault' M (0 : Int32)) (((60 : Int32) * x1) + x3))) H := hP
        have hD : va_D A (wM ad cI (M_at' (M_fault' M (0 : Int32)) (((60 : Int32) * x1) + x3))) := hD
        refine lv_aload_n hx hb dX4_town_61 rfl (lv_at hl 2 rfl) ?_
        refine lv_iload hx hb dX4_town_62 (lv_at hl 0 rfl) ?_
        refine lv_iload hx hb dX4_town_64 (lv_at hl 6 rfl) ?_
        refine lv_iadd hx hb dX4_town_66 ?_
        refine kc_V (As := [.int ((((60 : Int32) * x1) + x3) + x4)]) (rest := []) B (c_X4_readTown l D cI cO tF ad (M_at' (M_fault' M (0 : Int32)) (((60 : Int32) * x1) + x3)) ((((60 : Int32) * x1) + x3) + x4) (tw_a hL (sh_in c_9) c_37) (tw_e hL (sh_in c_9) c_37)) (cwV 1 hts gX4_town_X4_readTown rfl rfl rfl (by decide +kernel) ⟨Nat.le_of_ble_eq_true rfl, Nat.le_of_ble_eq_true rfl⟩) hP hD hS [0, 1, 2, 3, 4, 5, 6, 7, 8, 9, 10, 11, 12] wM_subA (by decide) (w' := wM ad cI ((f_X4_readTown (M_at' (M_fault' M (0 : Int32)) (((60 : Int32) * x1) + x3)) ((((60 : Int32) * x1) + x3) + x4)).2)) (wM_setA _) (wM_fst _) 0 4 rfl rfl rfl rfl hl.1 rfl (Nat.le_of_ble_eq_true rfl) dX4_town_67 ⟨Nat.zero_le _, Nat.zero_le _⟩ (fun H locs hP hD hS => ?_)
        have hD : va_D A (wM ad cI ((f_X4_readTown (M_at' (M_fault' M (0 : Int32)) (((60 : Int32) * x1) + x3)) ((((60 : Int32) * x1) + x3) + x4)).2)) := hD
        refine lv_if_ne (tgt := 84) hx hb dX4_town_70 (by decide) (fun c_70 => ?_) (fun c_70 => ?_)
        · refine lv_aload_n hx hb dX4_town_84 rfl (lv_at hl 2 rfl) ?_
          refine kc_V (As := []) (rest := []) B (c_X4_takeTown l D cI cO tF ad ((f_X4_readTown (M_at' (M_fault' M (0 : Int32)) (((60 : Int32) * x1) + x3)) ((((60 : Int32) * x1) + x3) + x4)).2) (rt_6 (M := M_at' (M_fault' M (0 : Int32)) (((60 : Int32) * x1) + x3)) (tw_a hL (sh_in c_9) c_37) (tw_e hL (sh_in c_9) c_37) c_70)) (cwV 0 hts gX4_town_X4_takeTown rfl rfl rfl (by decide +kernel) ⟨Nat.le_of_ble_eq_true rfl, Nat.le_of_ble_eq_true rfl⟩) hP hD hS [0, 1, 2, 3, 4, 5, 6, 7, 8, 9, 10, 11, 12] wM_subA (by decide) (w' := wM ad cI (f_X4_takeTown ((f_X4_readTown (M_at' (M_fault' M (0 : Int32)) (((60 : Int32) * x1) + x3)) ((((60 : Int32) * x1) + x3) + x4)).2))) (wM_setA _) (wM_fst _) 0 4 rfl rfl rfl rfl hl.1 rfl (Nat.le_of_ble_eq_true rfl) dX4_town_85 ⟨Nat.zero_le _, Nat.zero_le _⟩ (fun H locs hP hD hS => ?_)
          have hD : va_D A (wM ad cI (f_X4_takeTown ((f_X4_readTown (M_at' (M_fault' M (0 : Int32)) (((60 : Int32) * x1) + x3)) ((((60 : Int32) * x1) + x3) + x4)).2))) := hD
          refine lv_aload_n hx hb dX4_town_88 rfl (lv_at hl 2 rfl) ?_
          refine va_get (D := D) (ci := 4) (v := .int (M_people (f_X4_takeTown ((f_X4_readTown (M_at' (M_fault' M (0 : Int32)) (((60 : Int32) * x1) + x3)) ((((60 : Int32) * x1) + x3) + x4)).2)))) (C := RX4) (T := TX4) (N := 24) hx hb hts iw_X4_town_4 hown hK hP 0 rfl rfl 5 (by decide) (hts (.fieldLink RX4 56 "TownLispModel" "people" "I") (by decide +kernel)) (fun _ h9 => h9) rfl dX4_town_89 ?_
          have hF : f_X4_town M x1 x2 x3 x4 = ((M_people (f_X4_takeTown ((f_X4_readTown (M_at' (M_fault' M (0 : Int32)) (((60 : Int32) * x1) + x3)) ((((60 : Int32) * x1) + x3) + x4)).2))), (f_X4_takeTown ((f_X4_readTown (M_at' (M_fault' M (0 : Int32)) (((60 : Int32) * x1) + x3)) ((((60 : Int32) * x1) + x3) + x4)).2))) := by rw [f_X4_town, if_neg c_9, if_neg c_18, if_pos c_37, if_neg c_70]
          rw [hF]
          exact kr_i B hP hS rfl rfl dX4_town_92
        · refine lv_bipush (v := (-100 : Int32)) hx hb dX4_town_73 (by decide) ?_
          refine lv_aload_n hx hb dX4_town_75 rfl (lv_at hl 2 rfl) ?_
          refine va_get (D := D) (ci := 4) (v := .int (M_at (f_X4_readTown (M_at' (M_fault' M (0 : Int32)) (((60 : Int32) * x1) + x3)) ((((60 : Int32) * x1) + x3) + x4)).2)) (C := RX4) (T := TX4) (N := 24) hx hb hts iw_X4_town_4 hown hK hP 0 rfl rfl 12 (by decide) (hts (.fieldLink RX4 59 "TownLispModel" "at" "I") (by decide +kernel)) (fun _ h9 => h9) rfl dX4_town_76 ?_
          refine lv_iload hx hb dX4_town_79 (lv_at hl 0 rfl) ?_
          refine lv_isub hx hb dX4_town_81 ?_
          refine lv_isub hx hb dX4_town_82 ?_
          have hF : f_X4_town M x1 x2 x3 x4 = (((-100 : Int32) - ((M_at (f_X4_readTown (M_at' (M_fault' M (0 : Int32)) (((60 : Int32) * x1) + x3)) ((((60 : Int32) * x1) + x3) + x4)).2) - (((60 : Int32) * x1) + x3))), (f_X4_readTown (M_at' (M_fault' M (0 : Int32)) (((60 : Int32) * x1) + x3)) ((((60 : Int32) * x1) + x3) + x4)).2) := by rw [f_X4_town, if_neg c_9, if_neg c_18, if_pos c_37, if_pos c_70]
          rw [hF]
          exact kr_i B hP hS rfl rfl dX4_town_83
      · refine lv_aload_n hx hb dX4_town_40 rfl (lv_at hl 1 rfl) ?_
        refine lv_iload hx hb dX4_town_41 (lv_at hl 0 rfl) ?_
        refine kc_V (As := [.int (f_X4_against (M_fault' M (0 : Int32)) x1 x2 x3 x4)]) (rest := []) B (c_X4_fails l D cI cO tF ad (M_fault' M (0 : Int32)) (f_X4_against (M_fault' M (0 : Int32)) x1 x2 x3 x4) ) (cwV 1 hts gX4_town_X4_fails rfl rfl rfl (by decide +kernel) ⟨Nat.le_of_ble_eq_true rfl, Nat.le_of_ble_eq_true rfl⟩) hP hD hS [0, 1, 2, 3, 4, 5, 6, 7, 8, 9, 10, 11, 12] wM_subA (by decide) (w' := wM ad cI ((f_X4_fails (M_fault' M (0 : Int32)) (f_X4_against (M_fault' M (0 : Int32)) x1 x2 x3 x4)).2)) (wM_setA _) (wM_fst _) 0 4 rfl rfl rfl rfl hl.1 rfl (Nat.le_of_ble_eq_true rfl) dX4_town_43 ⟨Nat.zero_le _, Nat.zero_le _⟩ (fun H locs hP hD hS => ?_)
        have hD : va_D A (wM ad cI ((f_X4_fails (M_fault' M (0 : Int32)) (f_X4_against (M_fault' M (0 : Int32)) x1 x2 x3 x4)).2)) := hD
        have hF : f_X4_town M x1 x2 x3 x4 = ((f_X4_fails (M_fault' M (0 : Int32)) (f_X4_against (M_fault' M (0 : Int32)) x1 x2 x3 x4)).1, (f_X4_fails (M_fault' M (0 : Int32)) (f_X4_against (M_fault' M (0 : Int32)) x1 x2 x3 x4)).2) := by rw [f_X4_town, if_neg c_9, if_neg c_18, if_neg c_37]
        rw [hF]
        exact kr_i B hP hS rfl rfl dX4_town_46
    · refine lv_bipush (v := (-2 : Int32)) hx hb dX4_town_21 (by decide) ?_
      have hF : f_X4_town M x1 x2 x3 x4 = ((-2 : Int32), (M_fault' M (0 : Int32))) := by rw [f_X4_town, if_neg c_9, if_pos c_18]
      rw [hF]
      exact kr_i B hP hS rfl rfl dX4_town_23
  · refine lv_iconst (v := (-1 : Int32)) hx hb dX4_town_12 (by decide) ?_
    have hF : f_X4_town M x1 x2 x3 x4 = ((-1 : Int32), (M_fault' M (0 : Int32))) := by rw [f_X4_town, if_pos c_9]
    rw [hF]
    exact kr_i B hP hS rfl rfl dX4_town_13
