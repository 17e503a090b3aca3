def fL_X4_readTown_38 (M : MS) (x1 : Int32) : Nat → MS → Int32 × MS
  | 0, v_M => (0, v_M)
  | k + 1, v_M => (if (M_readPeople v_M) < (2 : Int32) then (if (f_X4_isSign v_M x1 (59 : Int32)).1 = 0 then ((0 : Int32), (f_X4_isSign v_M x1 (59 : Int32)).2) else (if (f_X4_readPerson ((f_X4_isSign v_M x1 (59 : Int32)).2) x1).1 = 0 then ((0 : Int32), (f_X4_readPerson ((f_X4_isSign v_M x1 (59 : Int32)).2) x1).2) else fL_X4_readTown_38 M x1 k ((f_X4_readPerson ((f_X4_isSign v_M x1 (59 : Int32)).2) x1).2))) else (if (6 : Int32) ≤ (M_readPeople v_M) then (if (M_at v_M) = x1 then ((1 : Int32), v_M) else ((0 : Int32), v_M)) else (if x1 ≤ (M_at v_M) then (if (M_at v_M) = x1 then ((1 : Int32), v_M) else ((0 : Int32), v_M)) else (if (f_X4_isSign v_M x1 (59 : Int32)).1 = 0 then ((0 : Int32), (f_X4_isSign v_M x1 (59 : Int32)).2) else (if (f_X4_readPerson ((f_X4_isSign v_M x1 (59 : Int32)).2) x1).1 = 0 then ((0 : Int32), (f_X4_readPerson ((f_X4_isSign v_M x1 (59 : Int32)).2) x1).2) else fL_X4_readTown_38 M x1 k ((f_X4_readPerson ((f_X4_isSign v_M x1 (59 : Int32)).2) x1).2))))))
def f_X4_readTown (M : MS) (x1 : Int32) : Int32 × MS := (if (f_X4_isSign (M_readPeople' M (0 : Int32)) x1 (116 : Int32)).1 = 0 then ((0 : Int32), (f_X4_isSign (M_readPeople' M (0 : Int32)) x1 (116 : Int32)).2) else (if (f_X4_twoDigits ((f_X4_isSign (M_readPeople' M (0 : Int32)) x1 (116 : Int32)).2) x1 (4 : Int32)).1 = (-9 : Int32) then ((0 : Int32), (M_readTin' (f_X4_twoDigits ((f_X4_isSign (M_readPeople' M (0 : Int32)) x1 (116 : Int32)).2) x1 (4 : Int32)).2 (f_X4_twoDigits ((f_X4_isSign (M_readPeople' M (0 : Int32)) x1 (116 : Int32)).2) x1 (4 : Int32)).1)) else fL_X4_readTown_38 M x1 7 (M_readTin' (f_X4_twoDigits ((f_X4_isSign (M_readPeople' M (0 : Int32)) x1 (116 : Int32)).2) x1 (4 : Int32)).2 (f_X4_twoDigits ((f_X4_isSign (M_readPeople' M (0 : Int32)) x1 (116 : Int32)).2) x1 (4 : Int32)).1)))
theorem iw_X4_readTown_4 : ∀ w ∈ wsX40, w ∈ wsX4_readTown := fun _ h => List.mem_cons_of_mem _ (List.mem_append_right _ h)
set_option maxHeartbeats 4000000 in
set_option maxRecDepth 100000 in
theorem L_X4_readTown_38 {p : Program} (l : Launch) {e : Env} {s : State} {m : MethodId} {args : Array Value} {below : List Frame} {meth : Method} {c : Code} {A : Nat → Prop} (D : va_G) (cI cO : ClassId) (tF : Nat) (ad : Nat → Nat) (M : MS) (x1 : Int32) (ha : 0 ≤ (M_at M).toInt) (he : x1.toInt ≤ 240) (B : Bx p s m args meth c cX4_readTown 2 (some .boolean) wsX4_readTown RX4 D cI cO tF A) : ∀ (k : Nat) (v_M : MS), (0 ≤ (M_at v_M).toInt) → (0 ≤ (M_readPeople v_M).toInt ∧ (M_readPeople v_M).toInt ≤ 6) → ((6 - (M_readPeople v_M).toInt).toNat < k) → ∀ (H : Heap) (locs : List Loc), va_P D vwCl (wM ad cI v_M) H → va_D A (wM ad cI v_M) → va_S A s.heap H locs → ∀ ls : Array Slot, lv_has ls 2 [(0, .ref (ad 0)), (1, .int x1)] → W p l e ({ frames := 4, cells := 0, slots := 0, locals := 92 }) s m args below meth c H locs 0 0 (MQ below (Qp D (some (.int ((fL_X4_readTown_38 M x1 k v_M).1))) (wM ad cI ((fL_X4_readTown_38 M x1 k v_M).2)) A) args s 0 0 A) (F0 m 38 ls []) := by
  obtain ⟨hx, hb, hret, hml, hts, hown, hlocks, hE, hA⟩ := id B
  have hK := hE.1
  intro k
  induction k with
  | zero =>
    intro v_M hva hrq hk
    exact absurd hk (Nat.not_lt_zero _)
  | succ k ih =>
    intro v_M hva hrq hk H locs hP hD hS ls hl
    refine lv_aload_n hx hb dX4_readTown_38 rfl (lv_at hl 0 rfl) ?_
    refine va_get (D := D) (ci := 4) (v := .int (M_readPeople v_M)) (C := RX4) (T := TX4) (N := 24) hx hb hts iw_X4_readTown_4 hown hK hP 0 rfl rfl 14 (by decide) (hts (.fieldLink RX4 93 "TownLispModel" "readPeople" "I") (by decide +kernel)) (fun _ h9 => h9) rfl dX4_readTown_39 ?_
    refine lv_iconst (v := (2 : Int32)) hx hb dX4_readTown_42 (by decide) ?_
    refine lv_icmp_lt (tgt := 63) hx hb dX4_readTown_43 (by decide) (fun c_43 => ?_) (fun c_43 => ?_)
    · refine lv_aload_n hx hb dX4_readTown_63 rfl (lv_at hl 0 rfl) ?_
      refine lv_iload_n hx hb dX4_readTown_64 rfl (lv_at hl 1 rfl) ?_
      refine lv_bipush (v := (59 : Int32)) hx hb dX4_readTown_65 (by decide) ?_
      refine kc_V (As := [.int x1, .int (59 : Int32)]) (rest := []) B (c_X4_isSign l D cI cO tF ad v_M x1 (59 : Int32) (hva) (he)) (cwV 2 hts gX4_readTown_X4_isSign rfl rfl rfl (by decide +kernel) ⟨Nat.le_of_ble_eq_true rfl, Nat.le_of_ble_eq_true rfl⟩) hP hD hS [0, 1, 2, 3, 4, 5, 6, 7, 8, 9, 10, 11, 12] wM_subA (by decide) (w' := wM ad cI ((f_X4_isSign v_M x1 (59 : Int32)).2)) (wM_setA _) (wM_fst _) 0 4 rfl rfl rfl rfl hl.1 rfl (Nat.le_of_ble_eq_true rfl) dX4_readTown_67 ⟨Nat.zero_le _, Nat.zero_le _⟩ (fun H locs hP hD hS => ?_)
      have hD : va_D A (wM ad cI ((f_X4_isSign v_M x1 (59 : Int32)).2)) := hD
      refine lv_if_eq (tgt := 81) hx hb dX4_readTown_70 (by decide) (fun c_70 => ?_) (fun c_70 => ?_)
      · refine lv_iconst (v := (0 : Int32)) hx hb dX4_readTown_81 (by decide) ?_
        have hF : fL_X4_readTown_38 M x1 (k + 1) v_M = ((0 : Int32), (f_X4_isSign v_M x1 (59 : Int32)).2) := by rw [fL_X4_readTown_38, if_pos c_43, if_pos c_70]
        rw [hF]
        exact kr_z B hP hS rfl rfl (Or.inl rfl) dX4_readTown_82
      · refine lv_aload_n hx hb dX4_readTown_73 rfl (lv_at hl 0 rfl) ?_
        refine lv_iload_n hx hb dX4_readTown_74 rfl (lv_at hl 1 rfl) ?_
        refine kc_V (As := [.int x1]) (rest := []) B (c_X4_readPerson l D cI cO tF ad ((f_X4_isSign v_M x1 (59 : Int32)).2) x1 (sg_at (M := v_M) (e := x1) (x := (59 : Int32)) hva he) (he) ((by first | exact rpq2 (M := v_M) (e := x1) (x := (59 : Int32)) hrq c_43 | exact rpq6 (M := v_M) (e := x1) (x := (59 : Int32)) hrq c_52))) (cwV 1 hts gX4_readTown_X4_readPerson rfl rfl rfl (by decide +kernel) ⟨Nat.le_of_ble_eq_true rfl, Nat.le_of_ble_eq_true rfl⟩) hP hD hS [0, 1, 2, 3, 4, 5, 6, 7, 8, 9, 10, 11, 12] wM_subA (by decide) (w' := wM ad cI ((f_X4_readPerson ((f_X4_isSign v_M x1 (59 : Int32)).2) x1).2)) (wM_setA _) (wM_fst _) 0 4 rfl rfl rfl rfl hl.1 rfl (Nat.le_of_ble_eq_true rfl) dX4_readTown_75 ⟨Nat.zero_le _, Nat.zero_le _⟩ (fun H locs hP hD hS => ?_)
        have hD : va_D A (wM ad cI ((f_X4_readPerson ((f_X4_isSign v_M x1 (59 : Int32)).2) x1).2)) := hD
        refine lv_if_ne (tgt := 38) hx hb dX4_readTown_78 (by decide) (fun c_78 => ?_) (fun c_78 => ?_)
        · have hF : fL_X4_readTown_38 M x1 (k + 1) v_M = fL_X4_readTown_38 M x1 k ((f_X4_readPerson ((f_X4_isSign v_M x1 (59 : Int32)).2) x1).2) := by rw [fL_X4_readTown_38, if_pos c_43, if_neg c_70, if_neg c_78]
          rw [hF]
          exact ih ((f_X4_readPerson ((f_X4_isSign v_M x1 (59 : Int32)).2) x1).2) (rpn_at (M := (f_X4_isSign v_M x1 (59 : Int32)).2) (e := x1) (sg_at (M := v_M) (e := x1) (x := (59 : Int32)) hva he) he (by first | exact rpq2 (M := v_M) (e := x1) (x := (59 : Int32)) hrq c_43 | exact rpq6 (M := v_M) (e := x1) (x := (59 : Int32)) hrq c_52)) (rpn_6 (M := (f_X4_isSign v_M x1 (59 : Int32)).2) (e := x1) (sg_at (M := v_M) (e := x1) (x := (59 : Int32)) hva he) he (by first | exact rpq2 (M := v_M) (e := x1) (x := (59 : Int32)) hrq c_43 | exact rpq6 (M := v_M) (e := x1) (x := (59 : Int32)) hrq c_52) c_78) (rpn_k (M := v_M) (e := x1) (x := 0) (f := (59 : Int32)) (sg_at (M := v_M) (e := x1) (x := (59 : Int32)) hva he) he (by first | exact rpq2 (M := v_M) (e := x1) (x := (59 : Int32)) hrq c_43 | exact rpq6 (M := v_M) (e := x1) (x := (59 : Int32)) hrq c_52) c_78 hk) _ _ hP hD hS ls (lv_sub hl [0, 1] rfl)
        · refine lv_iconst (v := (0 : Int32)) hx hb dX4_readTown_81 (by decide) ?_
          have hF : fL_X4_readTown_38 M x1 (k + 1) v_M = ((0 : Int32), (f_X4_readPerson ((f_X4_isSign v_M x1 (59 : Int32)).2) x1).2) := by rw [fL_X4_readTown_38, if_pos c_43, if_neg c_70, if_pos c_78]
          rw [hF]
          exact kr_z B hP hS rfl rfl (Or.inl rfl) dX4_readTown_82
    · refine lv_aload_n hx hb dX4_readTown_46 rfl (lv_at hl 0 rfl) ?_
      refine va_get (D := D) (ci := 4) (v := .int (M_readPeople v_M)) (C := RX4) (T := TX4) (N := 24) hx hb hts iw_X4_readTown_4 hown hK hP 0 rfl rfl 14 (by decide) (hts (.fieldLink RX4 93 "TownLispModel" "readPeople" "I") (by decide +kernel)) (fun _ h9 => h9) rfl dX4_readTown_47 ?_
      refine lv_bipush (v := (6 : Int32)) hx hb dX4_readTown_50 (by decide) ?_
      refine lv_icmp_ge (tgt := 83) hx hb dX4_readTown_52 (by decide) (fun c_52 => ?_) (fun c_52 => ?_)
      · refine lv_aload_n hx hb dX4_readTown_83 rfl (lv_at hl 0 rfl) ?_
        refine va_get (D := D) (ci := 4) (v := .int (M_at v_M)) (C := RX4) (T := TX4) (N := 24) hx hb hts iw_X4_readTown_4 hown hK hP 0 rfl rfl 12 (by decide) (hts (.fieldLink RX4 59 "TownLispModel" "at" "I") (by decide +kernel)) (fun _ h9 => h9) rfl dX4_readTown_84 ?_
        refine lv_iload_n hx hb dX4_readTown_87 rfl (lv_at hl 1 rfl) ?_
        refine lv_icmp_ne (tgt := 95) hx hb dX4_readTown_88 (by decide) (fun c_88 => ?_) (fun c_88 => ?_)
        · refine lv_iconst (v := (0 : Int32)) hx hb dX4_readTown_95 (by decide) ?_
          have hF : fL_X4_readTown_38 M x1 (k + 1) v_M = ((0 : Int32), v_M) := by rw [fL_X4_readTown_38, if_neg c_43, if_pos c_52, if_neg c_88]
          rw [hF]
          exact kr_z B hP hS rfl rfl (Or.inl rfl) dX4_readTown_96
        · refine lv_iconst (v := (1 : Int32)) hx hb dX4_readTown_91 (by decide) ?_
          refine lv_goto (tgt := 96) hx hb dX4_readTown_92 (by decide) ?_
          have hF : fL_X4_readTown_38 M x1 (k + 1) v_M = ((1 : Int32), v_M) := by rw [fL_X4_readTown_38, if_neg c_43, if_pos c_52, if_pos c_88]
          rw [hF]
          exact kr_z B hP hS rfl rfl (Or.inr rfl) dX4_readTown_96
      · refine lv_aload_n hx hb dX4_readTown_55 rfl (lv_at hl 0 rfl) ?_
        refine va_get (D := D) (ci := 4) (v := .int (M_at v_M)) (C := RX4) (T := TX4) (N := 24) hx hb hts iw_X4_readTown_4 hown hK hP 0 rfl rfl 12 (by decide) (hts (.fieldLink RX4 59 "TownLispModel" "at" "I") (by decide +kernel)) (fun _ h9 => h9) rfl dX4_readTown_56 ?_
        refine lv_iload_n hx hb dX4_readTown_59 rfl (lv_at hl 1 rfl) ?_
        refine lv_icmp_ge (tgt := 83) hx hb dX4_readTown_60 (by decide) (fun c_60 => ?_) (fun c_60 => ?_)
        · refine lv_aload_n hx hb dX4_readTown_83 rfl (lv_at hl 0 rfl) ?_
          refine va_get (D := D) (ci := 4) (v := .int (M_at v_M)) (C := RX4) (T := TX4) (N := 24) hx hb hts iw_X4_readTown_4 hown hK hP 0 rfl rfl 12 (by decide) (hts (.fieldLink RX4 59 "TownLispModel" "at" "I") (by decide +kernel)) (fun _ h9 => h9) rfl dX4_readTown_84 ?_
          refine lv_iload_n hx hb dX4_readTown_87 rfl (lv_at hl 1 rfl) ?_
          refine lv_icmp_ne (tgt := 95) hx hb dX4_readTown_88 (by decide) (fun c_88 => ?_) (fun c_88 => ?_)
          · refine lv_iconst (v := (0 : Int32)) hx hb dX4_readTown_95 (by decide) ?_
            have hF : fL_X4_readTown_38 M x1 (k + 1) v_M = ((0 : Int32), v_M) := by rw [fL_X4_readTown_38, if_neg c_43, if_neg c_52, if_pos c_60, if_neg c_88]
            rw [hF]
            exact kr_z B hP hS rfl rfl (Or.inl rfl) dX4_readTown_96
          · refine lv_iconst (v := (1 : Int32)) hx hb dX4_readTown_91 (by decide) ?_
            refine lv_goto (tgt := 96) hx hb dX4_readTown_92 (by decide) ?_
            have hF : fL_X4_readTown_38 M x1 (k + 1) v_M = ((1 : Int32), v_M) := by rw [fL_X4_readTown_38, if_neg c_43, if_neg c_52, if_pos c_60, if_pos c_88]
            rw [hF]
            exact kr_z B hP hS rfl rfl (Or.inr rfl) dX4_readTown_96
        · refine lv_aload_n hx hb dX4_readTown_63 rfl (lv_at hl 0 rfl) ?_
          refine lv_iload_n hx hb dX4_readTown_64 rfl (lv_at hl 1 rfl) ?_
          refine lv_bipush (v := (59 : Int32)) hx hb dX4_readTown_65 (by decide) ?_
          refine kc_V (As := [.int x1, .int (59 : Int32)]) (rest := []) B (c_X4_isSign l D cI cO tF ad v_M x1 (59 : Int32) (hva) (he)) (cwV 2 hts gX4_readTown_X4_isSign rfl rfl rfl (by decide +kernel) ⟨Nat.le_of_ble_eq_true rfl, Nat.le_of_ble_eq_true rfl⟩) hP hD hS [0, 1, 2, 3, 4, 5, 6, 7, 8, 9, 10, 11, 12] wM_subA (by decide) (w' := wM ad cI ((f_X4_isSign v_M x1 (59 : Int32)).2)) (wM_setA _) (wM_fst _) 0 4 rfl rfl rfl rfl hl.1 rfl (Nat.le_of_ble_eq_true rfl) dX4_readTown_67 ⟨Nat.zero_le _, Nat.zero_le _⟩ (fun H locs hP hD hS => ?_)
          have hD : va_D A (wM ad cI ((f_X4_isSign v_M x1 (59 : Int32)).2)) := hD
          refine lv_if_eq (tgt := 81) hx hb dX4_readTown_70 (by decide) (fun c_70 => ?_) (fun c_70 => ?_)
          · refine lv_iconst (v := (0 : Int32)) hx hb dX4_readTown_81 (by decide) ?_
            have hF : fL_X4_readTown_38 M x1 (k + 1) v_M = ((0 : Int32), (f_X4_isSign v_M x1 (59 : Int32)).2) := by rw [fL_X4_readTown_38, if_neg c_43, if_neg c_52, if_neg c_60, if_pos c_70]
            rw [hF]
            exact kr_z B hP hS rfl rfl (Or.inl rfl) dX4_readTown_82
          · refine lv_aload_n hx hb dX4_readTown_73 rfl (lv_at hl 0 rfl) ?_
            refine lv_iload_n hx hb dX4_readTown_74 rfl (lv_at hl 1 rfl) ?_
            refine kc_V (As := [.int x1]) (rest := []) B (c_X4_readPerson l D cI cO tF ad ((f_X4_isSign v_M x1 (59 : Int32)).2) x1 (sg_at (M := v_M) (e := x1) (x := (59 : Int32)) hva he) (he) ((by first | exact rpq2 (M := v_M) (e := x1) (x := (59 : Int32)) hrq c_43 | exact rpq6 (M := v_M) (e := x1) (x := (59 : Int32)) hrq c_52))) (cwV 1 hts gX4_readTown_X4_readPerson rfl rfl rfl (by decide +kernel) ⟨Nat.le_of_ble_eq_true rfl, Nat.le_of_ble_eq_true rfl⟩) hP hD hS [0, 1, 2, 3, 4, 5, 6, 7, 8, 9, 10, 11, 12] wM_subA (by decide) (w' := wM ad cI ((f_X4_readPerson ((f_X4_isSign v_M x1 (59 : Int32)).2) x1).2)) (wM_setA _) (wM_fst _) 0 4 rfl rfl rfl rfl hl.1 rfl (Nat.le_of_ble_eq_true rfl) dX4_readTown_75 ⟨Nat.zero_le _, Nat.zero_le _⟩ (fun H locs hP hD hS => ?_)
            have hD : va_D A (wM ad cI ((f_X4_readPerson ((f_X4_isSign v_M x1 (59 : Int32)).2) x1).2)) := hD
            refine lv_if_ne (tgt := 38) hx hb dX4_readTown_78 (by decide) (fun c_78 => ?_) (fun c_78 => ?_)
            · have hF : fL_X4_readTown_38 M x1 (k + 1) v_M = fL_X4_readTown_38 M x1 k ((f_X4_readPerson ((f_X4_isSign v_M x1 (59 : Int32)).2) x1).2) := by rw [fL_X4_readTown_38, if_neg c_43, if_neg c_52, if_neg c_60, if_neg c_70, if_neg c_78]
              rw [hF]
              exact ih ((f_X4_readPerson ((f_X4_isSign v_M x1 (59 : Int32)).2) x1).2) (rpn_at (M := (f_X4_isSign v_M x1 (59 : Int32)).2) (e := x1) (sg_at (M := v_M) (e := x1) (x := (59 : Int32)) hva he) he (by first | exact rpq2 (M := v_M) (e := x1) (x := (59 : Int32)) hrq c_43 | exact rpq6 (M := v_M) (e := x1) (x := (59 : Int32)) hrq c_52)) (rpn_6 (M := (f_X4_isSign v_M x1 (59 : Int32)).2) (e := x1) (sg_at (M := v_M) (e := x1) (x := (59 : Int32)) hva he) he (by first | exact rpq2 (M := v_M) (e := x1) (x := (59 : Int32)) hrq c_43 | exact rpq6 (M := v_M) (e := x1) (x := (59 : Int32)) hrq c_52) c_78) (rpn_k (M := v_M) (e := x1) (x := 0) (f := (59 : Int32)) (sg_at (M := v_M) (e := x1) (x := (59 : Int32)) hva he) he (by first | exact rpq2 (M := v_M) (e := x1) (x := (59 : Int32)) hrq c_43 | exact rpq6 (M := v_M) (e := x1) (x := (59 : Int32)) hrq c_52) c_78 hk) _ _ hP hD hS ls (lv_sub hl [0, 1] rfl)
            · refine lv_iconst (v := (0 : Int32)) hx hb dX4_readTown_81 (by decide) ?_
              have hF : fL_X4_readTown_38 M x1 (k + 1) v_M = ((0 : Int32), (f_X4_readPerson ((f_X4_isSign v_M x1 (59 : Int32)).2) x1).2) := by rw [fL_X4_readTown_38, if_neg c_43, if_neg c_52, if_neg c_60, if_neg c_70, if_pos c_78]
              rw [hF]
              exact kr_z B hP hS rfl rfl (Or.inl rfl) dX4_readTown_82
set_option maxHeartbeats 4000000 in
set_option maxRecDepth 100000 in
theorem c_X4_readTown (l : Launch) (D : va_G) (cI cO : ClassId) (tF : Nat) (ad : Nat → Nat) (M : MS) (x1 : Int32) (ha : 0 ≤ (M_at M).toInt) (he : x1.toInt ≤ 240) : Ct l yX4_readTown wsX4_readTown ({ frames := 4, cells := 0, slots := 0, locals := 92 }) D cI cO tF [.ref (ad 0), .int x1] (wM ad cI M) (some (.int ((f_X4_readTown M x1).1))) (wM ad cI ((f_X4_readTown M x1).2)) := by
  refine Ct.of (cc := cX4_readTown) (maxL := 2) (ret := (some .boolean)) (own := RX4) (by decide) rfl rfl (Nat.le_of_ble_eq_true rfl) ?_
  intro p e s m args below meth c A ls B hP hD hS hl
  obtain ⟨hx, hb, hret, hml, hts, hown, hlocks, hE, hA⟩ := id B
  have hK := hE.1
  have hl : lv_has ls 2 [(0, .ref (ad 0)), (1, .int x1)] := hl
  refine lv_aload_n hx hb dX4_readTown_0 rfl (lv_at hl 0 rfl) ?_
  refine lv_iconst (v := (0 : Int32)) hx hb dX4_readTown_1 (by decide) ?_
  refine va_put (D := D) (ci := 4) (v := .int (0 : Int32)) (ty := .int) (C := RX4) (T := TX4) (N := 24) hx hb hts iw_X4_readTown_4 tyX4 tyX4_ok nmX4 hown hK hP hD hS 0 rfl rfl 14 (by decide) (hts (.fieldLink RX4 93 "TownLispModel" "readPeople" "I") (by decide +kernel)) (fun _ h9 => h9) rfl (by decide +kernel) rfl rfl (Nat.le_of_ble_eq_true rfl) dX4_readTown_2 (fun H locs hP hD hS => ?_)
  have hP : va_P D vwCl (wM ad cI (M_readPeople' M (0 : Int32))) H := hP
  have hD : va_D A (wM ad cI (M_readPeople' M (0 : Int32))) := hD
  refine lv_aload_n hx hb dX4_readTown_5 rfl (lv_at hl 0 rfl) ?_
  refine lv_iload_n hx hb dX4_readTown_6 rfl (lv_at hl 1 rfl) ?_
  refine lv_bipush (v := (116 : Int32)) hx hb dX4_readTown_7 (by decide) ?_
  refine kc_V (As := [.int x1, .int (116 : Int32)]) (rest := []) B (c_X4_isSign l D cI cO tF ad (M_readPeople' M (0 : Int32)) x1 (116 : Int32) (ha) (he)) (cwV 2 hts gX4_readTown_X4_isSign rfl rfl rfl (by decide +kernel) ⟨Nat.le_of_ble_eq_true rfl, Nat.le_of_ble_eq_true rfl⟩) hP hD hS [0, 1, 2, 3, 4, 5, 6, 7, 8, 9, 10, 11, 12] wM_subA (by decide) (w' := wM ad cI ((f_X4_isSign (M_readPeople' M (0 : Int32)) x1 (116 : Int32)).2)) (wM_setA _) (wM_fst _) 0 4 rfl rfl rfl rfl hl.1 rfl (Nat.le_of_ble_eq_true rfl) dX4_readTown_9 ⟨Nat.zero_le _, Nat.zero_le _⟩ (fun H locs hP hD hS => ?_)
  have hD : va_D A (wM ad cI ((f_X4_isSign (M_readPeople' M (0 : Int32)) x1 (116 : Int32)).2)) := hD
  refine lv_if_ne (tgt := 17) hx hb dX4_readTown_12 (by decide) (fun c_12 => ?_) (fun c_12 => ?_)
  · refine lv_aload_n hx hb dX4_readTown_17 rfl (lv_at hl 0 rfl) ?_
    refine lv_aload_n hx hb dX4_readTown_18 rfl (lv_at hl 0 rfl) ?_
    refine lv_iload_n hx hb dX4_readTown_19 rfl (lv_at hl 1 rfl) ?_
    refine lv_iconst (v := (4 : Int32)) hx hb dX4_readTown_20 (by decide) ?_
    refine kc_V (As := [.int x1, .int (4 : Int32)]) (rest := [.ref (ad 0)]) B (c_X4_twoDigits l D cI cO tF ad ((f_X4_isSign (M_readPeople' M (0 : Int32)) x1 (116 : Int32)).2) x1 (4 : Int32) (sg_at (M := M_readPeople' M (0 : Int32)) (e := x1) (x := (116 : Int32)) ha he) (he)) (cwV 2 hts gX4_readTown_X4_twoDigits rfl rfl rfl (by decide +kernel) ⟨Nat.le_of_ble_eq_true rfl, Nat.le_of_ble_eq_true rfl⟩) hP hD hS [0, 1, 2, 3, 4, 5, 6, 7, 8, 9, 10, 11, 12] wM_subA (by decide) (w' := wM ad cI ((f_X4_twoDigits ((f_X4_isSign (M_readPeople' M (0 : Int32)) x1 (116 : Int32)).2) x1 (4 : Int32)).2)) (wM_setA _) (wM_fst _) 0 4 rfl rfl rfl rfl hl.1 rfl (Nat.le_of_ble_eq_true rfl) dX4_readTown_21 ⟨Nat.zero_le _, Nat.zero_le _⟩ (fun H locs hP hD hS => ?_)
    have hD : va_D A (wM ad cI ((f_X4_twoDigits ((f_X4_isSign (M_readPeople' M (0 : Int32)) x1 (116 : Int32)).2) x1 (4 : Int32)).2)) := hD
    refine va_put (D := D) (ci := 4) (v := .int ((f_X4_twoDigits ((f_X4_isSign (M_readPeople' M (0 : Int32)) x1 (116 : Int32)).2) x1 (4 : Int32)).1)) (ty := .int) (C := RX4) (T := TX4) (N := 24) hx hb hts iw_X4_readTown_4 tyX4 tyX4_ok nmX4 hown hK hP hD hS 0 rfl rfl 13 (by decide) (hts (.fieldLink RX4 87 "TownLispModel" "readTin" "I") (by decide +kernel)) (fun _ h9 => h9) rfl (by decide +kernel) rfl rfl (Nat.le_of_ble_eq_true rfl) dX4_readTown_24 (fun H locs hP hD hS => ?_)
    have hP : va_P D vwCl (wM ad cI (M_readTin' (f_X4_twoDigits ((f_X4_isSign (M_readPeople' M (0 : Int32)) x1 (116 : Int32)).2) x1 (4 : Int32)).2 (f_X4_twoDigits ((f_X4_isSign (M_readPeople' M (0 : Int32)) x1 (116 : Int32)).2) x1 (4 : Int32)).1)) H := hP
    have hD : va_D A (wM ad cI (M_readTin' (f_X4_twoDigits ((f_X4_isSign (M_readPeople' M (0 : Int32)) x1 (116 : Int32)).2) x1 (4 : Int32)).2 (f_X4_twoDigits ((f_X4_isSign (M_readPeople' M (0 : Int32)) x1 (116 : Int32)).2) x1 (4 : Int32)).1)) := hD
    refine lv_aload_n hx hb dX4_readTown_27 rfl (lv_at hl 0 rfl) ?_
    refine va_get (D := D) (ci := 4) (v := .int ((f_X4_twoDigits ((f_X4_isSign (M_readPeople' M (0 : Int32)) x1 (116 : Int32)).2) x1 (4 : Int32)).1)) (C := RX4) (T := TX4) (N := 24) hx hb hts iw_X4_readTown_4 hown hK hP 0 rfl rfl 13 (by decide) (hts (.fieldLink RX4 87 "TownLispModel" "readTin" "I") (by decide +kernel)) (fun _ h9 => h9) rfl dX4_readTown_28 ?_
    refine lv_bipush (v := (-9 : Int32)) hx hb dX4_readTown_31 (by decide) ?_
    refine lv_icmp_ne (tgt := 38) hx hb dX4_readTown_33 (by decide) (fun c_33 => ?_) (fun c_33 => ?_)
    · have hF : f_X4_readTown M x1 = fL_X4_readTown_38 M x1 7 (M_readTin' (f_X4_twoDigits ((f_X4_isSign (M_readPeople' M (0 : Int32)) x1 (116 : Int32)).2) x1 (4 : Int32)).2 (f_X4_twoDigits ((f_X4_isSign (M_readPeople' M (0 : Int32)) x1 (116 : Int32)).2) x1 (4 : Int32)).1) := by rw [f_X4_readTown, if_neg c_12, if_neg c_33]
      rw [hF]
      exact L_X4_readTown_38 l D cI cO tF ad M x1 ha he B  7 (M_readTin' (f_X4_twoDigits ((f_X4_isSign (M_readPeople' M (0 : Int32)) x1 (116 : Int32)).2) x1 (4 : Int32)).2 (f_X4_twoDigits ((f_X4_isSign (M_readPeople' M (0 : Int32)) x1 (116 : Int32)).2) x1 (4 : Int32)).1) (td_at (M := (f_X4_isSign (M_readPeople' M (0 : Int32)) x1 (116 : Int32)).2) (e := x1) (x := (4 : Int32)) (sg_at (M := M_readPeople' M (0 : Int32)) (e := x1) (x := (116 : Int32)) ha he) he) (rt_0 (M := M) (e := x1)) (rt_0k (M := M) (e := x1)) _ _ hP hD hS ls (lv_sub hl [0, 1] rfl)
    · refine lv_iconst (v := (0 : Int32)) hx hb dX4_readTown_36 (by decide) ?_
      have hF : f_X4_readTown M x1 = ((0 : Int32), (M_readTin' (f_X4_twoDigits ((f_X4_isSign (M_readPeople' M (0 : Int32)) x1 (116 : Int32)).2) x1 (4 : Int32)).2 (f_X4_twoDigits ((f_X4_isSign (M_readPeople' M (0 : Int32)) x1 (116 : Int32)).2) x1 (4 : Int32)).1)) := by rw [f_X4_readTown, if_neg c_12, if_pos c_33]
      rw [hF]
      exact kr_z B hP hS rfl rfl (Or.inl rfl) dX4_readTown_37
  · refine lv_iconst (v := (0 : Int32)) hx hb dX4_readTown_15 (by decide) ?_
    have hF : f_X4_readTown M x1 = ((0 : Int32), (f_X4_isSign (M_readPeople' M (0 : Int32)) x1 (116 : Int32)).2) := by rw [f_X4_readTown, if_pos c_12]
    rw [hF]
    exact kr_z B hP hS rfl rfl (Or.inl rfl) dX4_readTown_16
def fL_X4_year_103 (M : MS) (x1 : Int32) (x2 : Int32) (x3 : Int32) (x4 : Int32) (x5 : Int32) (x6 : Int32) (x7 : Int32) : Nat → Int32 → Int32 → Int32 × MS
  | 0, _, v_fault => (0, (M_fault' M v_fault))
  | k + 1, x8, v_fault => (if x4 ≤ x8 then (if x5 = (1 : Int32) then ((f_X4_goYear (f_X4_keep (M_fault' M v_fault)) x7 x4).1, (f_X4_putBack ((f_X4_goYear (f_X4_keep (M_fault' M v_fault)) x7 x4).2))) else (if (f_X4_goYear (f_X4_keep (M_fault' M v_fault)) x7 x4).1 = (-9 : Int32) then ((f_X4_tellYear ((f_X4_goYear (f_X4_keep (M_fault' M v_fault)) x7 x4).2) x5), (f_X4_putBack ((f_X4_goYear (f_X4_keep (M_fault' M v_fault)) x7 x4).2))) else (((-100 : Int32) - (f_X4_goYear (f_X4_keep (M_fault' M v_fault)) x7 x4).1), (f_X4_putBack ((f_X4_goYear (f_X4_keep (M_fault' M v_fault)) x7 x4).2))))) else (if (f_X4_isPerson (M_fault' M v_fault) ((M_cells M) (x7 + ((2 : Int32) * x8)).toNatClampNeg)) = 0 then ((-1 : Int32), (M_fault' M v_fault)) else (if (f_X4_within ((M_cells M) ((x7 + ((2 : Int32) * x8)) + (1 : Int32)).toNatClampNeg) (0 : Int32) (4 : Int32)) = 0 then ((-2 : Int32), (M_fault' M v_fault)) else fL_X4_year_103 M x1 x2 x3 x4 x5 x6 x7 k (x8 + (1 : Int32)) v_fault)))
def f_X4_year (M : MS) (x1 : Int32) (x2 : Int32) (x3 : Int32) (x4 : Int32) (x5 : Int32) : Int32 × MS := (if (f_X4_isSheet x1) = 0 then ((-1 : Int32), (M_fault' M (0 : Int32))) else (if (f_X4_isSort x2) = 0 then ((-2 : Int32), (M_fault' M (0 : Int32))) else (if (f_X4_within x4 (0 : Int32) (20 : Int32)) = 0 then ((-2 : Int32), (M_fault' M (0 : Int32))) else (if (f_X4_within x5 (0 : Int32) (3 : Int32)) = 0 then (if (f_X4_within x5 (10 : Int32) (15 : Int32)) = 0 then ((-2 : Int32), (M_fault' M (0 : Int32))) else (if (f_X4_against (M_fault' M (0 : Int32)) x1 x2 x3 ((2 : Int32) * x4)) = 0 then (if (M_people M) = 0 then ((-3 : Int32), (M_fault' M (0 : Int32))) else fL_X4_year_103 M x1 x2 x3 x4 x5 (f_X4_against (M_fault' M (0 : Int32)) x1 x2 x3 ((2 : Int32) * x4)) (((60 : Int32) * x1) + x3) (x4.toInt.toNat + 1) (0 : Int32) (0 : Int32)) else ((f_X4_fails (M_fault' M (0 : Int32)) (f_X4_against (M_fault' M (0 : Int32)) x1 x2 x3 ((2 : Int32) * x4))).1, (f_X4_fails (M_fault' M (0 : Int32)) (f_X4_against (M_fault' M (0 : Int32)) x1 x2 x3 ((2 : Int32) * x4))).2))) else (if (f_X4_against (M_fault' M (0 : Int32)) x1 x2 x3 ((2 : Int32) * x4)) = 0 then (if (M_people M) = 0 then ((-3 : Int32), (M_fault' M (0 : Int32))) else fL_X4_year_103 M x1 x2 x3 x4 x5 (f_X4_against (M_fault' M (0 : Int32)) x1 x2 x3 ((2 : Int32) * x4)) (((60 : Int32) * x1) + x3) (x4.toInt.toNat + 1) (0 : Int32) (0 : Int32)) else ((f_X4_fails (M_fault' M (0 : Int32)) (f_X4_against (M_fault' M (0 : Int32)) x1 x2 x3 ((2 : Int32) * x4))).1, (f_X4_fails (M_fault' M (0 : Int32)) (f_X4_against (M_fault' M (0 : Int32)) x1 x2 x3 ((2 : Int32) * x4))).2))))))
theorem iw_X4_year_4 : ∀ w ∈ wsX40, w ∈ wsX4_year := fun _ h => List.mem_cons_of_mem _ (List.mem_append_right _ h)
set_option maxHeartbeats 4000000 in
set_option maxRecDepth 100000 in
theorem L_X4_year_103 {p : Program} (l : Launch) {e : Env} {s : State} {m : MethodId} {args : Array Value} {below : List Frame} {meth : Method} {c : Code} {A : Nat → Prop} (D : va_G) (cI cO : ClassId) (tF : Nat) (ad : Nat → Nat) (M : MS) (x1 : Int32) (x2 : Int32) (x3 : Int32) (x4 : Int32) (x5 : Int32) (x6 : Int32) (x7 : Int32) (hn : (M_people M).toInt ≤ 6) (ht : ∀ i : Nat, (i : Int) < (M_people M).toInt → ¬ M_thick M i = 0) (hso : so (M_isIn M) (M_people M)) (hL : ∀ i : Nat, i < 4 → 0 ≤ (M_sheetLong M i).toInt ∧ (M_sheetLong M i).toInt ≤ 60) (B : Bx p s m args meth c cX4_year 10 (some .int) wsX4_year RX4 D cI cO tF A) (hix : ∀ r : Int32, 0 ≤ r.toInt → ¬ x4 ≤ r → vp_in (x7 + ((2 : Int32) * r)) 240 ∧ vp_in ((x7 + ((2 : Int32) * r)) + (1 : Int32)) 240) : ∀ (k : Nat) (x8 : Int32) (v_fault : Int32), (∀ r : Int32, 0 ≤ r.toInt → r.toInt < x8.toInt → 0 ≤ ((M_cells M) (x7 + ((2 : Int32) * r)).toNatClampNeg).toInt ∧ ((M_cells M) (x7 + ((2 : Int32) * r)).toNatClampNeg).toInt < (M_people M).toInt) → (0 ≤ x8.toInt) → ((x4.toInt - x8.toInt).toNat < k) → ∀ (H : Heap) (locs : List Loc), va_P D vwCl (wM ad cI (M_fault' M v_fault)) H → va_D A (wM ad cI (M_fault' M v_fault)) → va_S A s.heap H locs → ∀ ls : Array Slot, lv_has ls 10 [(0, .ref (ad 0)), (1, .int x1), (2, .int x2), (3, .int x3), (4, .int x4), (5, .int x5), (6, .int x6), (7, .int x7), (8, .int x8)] → W p l e ({ frames := 6, cells := 0, slots := 0, locals := 140 }) s m args below meth c H locs 0 0 (MQ below (Qp D (some (.int ((fL_X4_year_103 M x1 x2 x3 x4 x5 x6 x7 k x8 v_fault).1))) (wM ad cI ((fL_X4_year_103 M x1 x2 x3 x4 x5 x6 x7 k x8 v_fault).2)) A) args s 0 0 A) (F0 m 103 ls []) := by
  obtain ⟨hx, hb, hret, hml, hts, hown, hlocks, hE, hA⟩ := id B
  have hK := hE.1
  intro k
  induction k with
  | zero =>
    intro x8 v_fault hval h0 hk
    exact absurd hk (Nat.not_lt_zero _)
  | succ k ih =>
    intro x8 v_fault hval h0 hk H locs hP hD hS ls hl
    refine lv_iload hx hb dX4_year_103 (lv_at hl 8 rfl) ?_
    refine lv_iload hx hb dX4_year_105 (lv_at hl 4 rfl) ?_
    refine lv_icmp_ge (tgt := 162) hx hb dX4_year_107 (by decide) (fun c_107 => ?_) (fun c_107 => ?_)
    · refine lv_aload_n hx hb dX4_year_162 rfl (lv_at hl 0 rfl) ?_
      refine kc_V (As := []) (rest := []) B (c_X4_keep l D cI cO tF ad (M_fault' M v_fault) (hn)) (cwV 0 hts gX4_year_X4_keep rfl rfl rfl (by decide +kernel) ⟨Nat.le_of_ble_eq_true rfl, Nat.le_of_ble_eq_true rfl⟩) hP hD hS [0, 1, 2, 3, 4, 5, 6, 7, 8, 9, 10, 11, 12] wM_subA (by decide) (w' := wM ad cI (f_X4_keep (M_fault' M v_fault))) (wM_setA _) (wM_fst _) 0 4 rfl rfl rfl rfl hl.1 rfl (Nat.le_of_ble_eq_true rfl) dX4_year_163 ⟨Nat.zero_le _, Nat.zero_le _⟩ (fun H locs hP hD hS => ?_)
      have hD : va_D A (wM ad cI (f_X4_keep (M_fault' M v_fault))) := hD
      refine lv_aload_n hx hb dX4_year_166 rfl (lv_at hl 0 rfl) ?_
      refine lv_iload hx hb dX4_year_167 (lv_at hl 7 rfl) ?_
      refine lv_iload hx hb dX4_year_169 (lv_at hl 4 rfl) ?_
      refine kc_V (As := [.int x7, .int x4]) (rest := []) B (c_X4_goYear l D cI cO tF ad (f_X4_keep (M_fault' M v_fault)) x7 x4 (keep_c hn) (kf_so hso) (hix) (ya_pa hval c_107)) (cwV 2 hts gX4_year_X4_goYear rfl rfl rfl (by decide +kernel) ⟨Nat.le_of_ble_eq_true rfl, Nat.le_of_ble_eq_true rfl⟩) hP hD hS [0, 1, 2, 3, 4, 5, 6, 7, 8, 9, 10, 11, 12] wM_subA (by decide) (w' := wM ad cI ((f_X4_goYear (f_X4_keep (M_fault' M v_fault)) x7 x4).2)) (wM_setA _) (wM_fst _) 0 4 rfl rfl rfl rfl hl.1 rfl (Nat.le_of_ble_eq_true rfl) dX4_year_171 ⟨Nat.zero_le _, Nat.zero_le _⟩ (fun H locs hP hD hS => ?_)
      have hD : va_D A (wM ad cI ((f_X4_goYear (f_X4_keep (M_fault' M v_fault)) x7 x4).2)) := hD
      refine lv_istore (lv' := [(8, .int ((f_X4_goYear (f_X4_keep (M_fault' M v_fault)) x7 x4).1)), (0, .ref (ad 0)), (1, .int x1), (2, .int x2), (3, .int x3), (4, .int x4), (5, .int x5), (6, .int x6), (7, .int x7)]) hx hb dX4_year_174 hl (by decide) rfl (fun ls hl => ?_)
      refine lv_aload_n hx hb dX4_year_176 rfl (lv_at hl 1 rfl) ?_
      refine lv_iload hx hb dX4_year_177 (lv_at hl 6 rfl) ?_
      refine kc_V (As := [.int x5]) (rest := []) B (c_X4_tellYear l D cI cO tF ad ((f_X4_goYear (f_X4_keep (M_fault' M v_fault)) x7 x4).2) x5 (ya_n hn) (ya_t ht)) (cwV 1 hts gX4_year_X4_tellYear rfl rfl rfl (by decide +kernel) ⟨Nat.le_of_ble_eq_true rfl, Nat.le_of_ble_eq_true rfl⟩) hP hD hS [0, 1, 2, 3, 4, 5, 6, 7, 8, 9, 10, 11, 12] wM_subA (by decide) (w' := wM ad cI ((f_X4_goYear (f_X4_keep (M_fault' M v_fault)) x7 x4).2)) (wM_setA _) (wM_fst _) 0 4 rfl rfl rfl rfl hl.1 rfl (Nat.le_of_ble_eq_true rfl) dX4_year_179 ⟨Nat.zero_le _, Nat.zero_le _⟩ (fun H locs hP hD hS => ?_)
      have hD : va_D A (wM ad cI ((f_X4_goYear (f_X4_keep (M_fault' M v_fault)) x7 x4).2)) := hD
      refine lv_istore (lv' := [(9, .int (f_X4_tellYear ((f_X4_goYear (f_X4_keep (M_fault' M v_fault)) x7 x4).2) x5)), (8, .int ((f_X4_goYear (f_X4_keep (M_fault' M v_fault)) x7 x4).1)), (0, .ref (ad 0)), (1, .int x1), (2, .int x2), (3, .int x3), (4, .int x4), (5, .int x5), (6, .int x6), (7, .int x7)]) hx hb dX4_year_182 hl (by decide) rfl (fun ls hl => ?_)
      refine lv_aload_n hx hb dX4_year_184 rfl (lv_at hl 2 rfl) ?_
      refine kc_V (As := []) (rest := []) B (c_X4_putBack l D cI cO tF ad ((f_X4_goYear (f_X4_keep (M_fault' M v_fault)) x7 x4).2) (ya_n hn)) (cwV 0 hts gX4_year_X4_putBack rfl rfl rfl (by decide +kernel) ⟨Nat.le_of_ble_eq_true rfl, Nat.le_of_ble_eq_true rfl⟩) hP hD hS [0, 1, 2, 3, 4, 5, 6, 7, 8, 9, 10, 11, 12] wM_subA (by decide) (w' := wM ad cI (f_X4_putBack ((f_X4_goYear (f_X4_keep (M_fault' M v_fault)) x7 x4).2))) (wM_setA _) (wM_fst _) 0 4 rfl rfl rfl rfl hl.1 rfl (Nat.le_of_ble_eq_true rfl) dX4_year_185 ⟨Nat.zero_le _, Nat.zero_le _⟩ (fun H locs hP hD hS => ?_)
      have hD : va_D A (wM ad cI (f_X4_putBack ((f_X4_goYear (f_X4_keep (M_fault' M v_fault)) x7 x4).2))) := hD
      refine lv_iload hx hb dX4_year_188 (lv_at hl 7 rfl) ?_
      refine lv_iconst (v := (1 : Int32)) hx hb dX4_year_190 (by decide) ?_
      refine lv_icmp_ne (tgt := 199) hx hb dX4_year_191 (by decide) (fun c_191 => ?_) (fun c_191 => ?_)
      · refine lv_iload hx hb dX4_year_199 (lv_at hl 1 rfl) ?_
        refine lv_bipush (v := (-9 : Int32)) hx hb dX4_year_201 (by decide) ?_
        refine lv_icmp_ne (tgt := 211) hx hb dX4_year_203 (by decide) (fun c_203 => ?_) (fun c_203 => ?_)
        · refine lv_bipush (v := (-100 : Int32)) hx hb dX4_year_211 (by decide) ?_
          refine lv_iload hx hb dX4_year_213 (lv_at hl 1 rfl) ?_
          refine lv_isub hx hb dX4_year_215 ?_
          have hF : fL_X4_year_103 M x1 x2 x3 x4 x5 x6 x7 (k + 1) x8 v_fault = (((-100 : Int32) - (f_X4_goYear (f_X4_keep (M_fault' M v_fault)) x7 x4).1), (f_X4_putBack ((f_X4_goYear (f_X4_keep (M_fault' M v_fault)) x7 x4).2))) := by rw [fL_X4_year_103, if_pos c_107, if_neg c_191, if_neg c_203]
          rw [hF]
          exact kr_i B hP hS rfl rfl dX4_year_216
        · refine lv_iload hx hb dX4_year_206 (lv_at hl 0 rfl) ?_
          refine lv_goto (tgt := 216) hx hb dX4_year_208 (by decide) ?_
          have hF : fL_X4_year_103 M x1 x2 x3 x4 x5 x6 x7 (k + 1) x8 v_fault = ((f_X4_tellYear ((f_X4_goYear (f_X4_keep (M_fault' M v_fault)) x7 x4).2) x5), (f_X4_putBack ((f_X4_goYear (f_X4_keep (M_fault' M v_fault)) x7 x4).2))) := by rw [fL_X4_year_103, if_pos c_107, if_neg c_191, if_pos c_203]
          rw [hF]
          exact kr_i B hP hS rfl rfl dX4_year_216
      · refine lv_iload hx hb dX4_year_194 (lv_at hl 1 rfl) ?_
        refine lv_goto (tgt := 216) hx hb dX4_year_196 (by decide) ?_
        have hF : fL_X4_year_103 M x1 x2 x3 x4 x5 x6 x7 (k + 1) x8 v_fault = ((f_X4_goYear (f_X4_keep (M_fault' M v_fault)) x7 x4).1, (f_X4_putBack ((f_X4_goYear (f_X4_keep (M_fault' M v_fault)) x7 x4).2))) := by rw [fL_X4_year_103, if_pos c_107, if_pos c_191]
        rw [hF]
        exact kr_i B hP hS rfl rfl dX4_year_216
    · refine lv_aload_n hx hb dX4_year_110 rfl (lv_at hl 0 rfl) ?_
      refine lv_aload_n hx hb dX4_year_111 rfl (lv_at hl 0 rfl) ?_
      refine va_get (D := D) (ci := 4) (v := .ref (ad 3)) (C := RX4) (T := TX4) (N := 24) hx hb hts iw_X4_year_4 hown hK hP 0 rfl rfl 4 (by decide) (hts (.fieldLink RX4 16 "TownLispModel" "cells" "[I") (by decide +kernel)) (fun _ h9 => h9) rfl dX4_year_112 ?_
      refine lv_iload hx hb dX4_year_115 (lv_at hl 7 rfl) ?_
      refine lv_iconst (v := (2 : Int32)) hx hb dX4_year_117 (by decide) ?_
      refine lv_iload hx hb dX4_year_118 (lv_at hl 8 rfl) ?_
      refine lv_imul hx hb dX4_year_120 ?_
      refine lv_iadd hx hb dX4_year_121 ?_
      refine va_iald hx hb hK hP 3 0 rfl rfl ((hix _ h0 c_107).1) dX4_year_122 ?_
      refine kc_V (As := [.int ((M_cells M) (x7 + ((2 : Int32) * x8)).toNatClampNeg)]) (rest := []) B (c_X4_isPerson l D cI cO tF ad (M_fault' M v_fault) ((M_cells M) (x7 + ((2 : Int32) * x8)).toNatClampNeg) ) (cwV 1 hts gX4_year_X4_isPerson rfl rfl rfl (by decide +kernel) ⟨Nat.le_of_ble_eq_true rfl, Nat.le_of_ble_eq_true rfl⟩) hP hD hS [0, 1, 2, 3, 4, 5, 6, 7, 8, 9, 10, 11, 12] wM_subA (by decide) (w' := wM ad cI (M_fault' M v_fault)) (wM_setA _) (wM_fst _) 0 4 rfl rfl rfl rfl hl.1 rfl (Nat.le_of_ble_eq_true rfl) dX4_year_123 ⟨Nat.zero_le _, Nat.zero_le _⟩ (fun H locs hP hD hS => ?_)
      have hD : va_D A (wM ad cI (M_fault' M v_fault)) := hD
      refine lv_if_ne (tgt := 131) hx hb dX4_year_126 (by decide) (fun c_126 => ?_) (fun c_126 => ?_)
      · refine lv_aload_n hx hb dX4_year_131 rfl (lv_at hl 0 rfl) ?_
        refine va_get (D := D) (ci := 4) (v := .ref (ad 3)) (C := RX4) (T := TX4) (N := 24) hx hb hts iw_X4_year_4 hown hK hP 0 rfl rfl 4 (by decide) (hts (.fieldLink RX4 16 "TownLispModel" "cells" "[I") (by decide +kernel)) (fun _ h9 => h9) rfl dX4_year_132 ?_
        refine lv_iload hx hb dX4_year_135 (lv_at hl 7 rfl) ?_
        refine lv_iconst (v := (2 : Int32)) hx hb dX4_year_137 (by decide) ?_
        refine lv_iload hx hb dX4_year_138 (lv_at hl 8 rfl) ?_
        refine lv_imul hx hb dX4_year_140 ?_
        refine lv_iadd hx hb dX4_year_141 ?_
        refine lv_iconst (v := (1 : Int32)) hx hb dX4_year_142 (by decide) ?_
        refine lv_iadd hx hb dX4_year_143 ?_
        refine va_iald hx hb hK hP 3 0 rfl rfl ((hix _ h0 c_107).2) dX4_year_144 ?_
        refine lv_iconst (v := (0 : Int32)) hx hb dX4_year_145 (by decide) ?_
        refine lv_iconst (v := (4 : Int32)) hx hb dX4_year_146 (by decide) ?_
        refine kc_S (As := [.int ((M_cells M) ((x7 + ((2 : Int32) * x8)) + (1 : Int32)).toNatClampNeg), .int (0 : Int32), .int (4 : Int32)]) (rest := []) B (c_X4_within l D cI cO tF ((M_cells M) ((x7 + ((2 : Int32) * x8)) + (1 : Int32)).toNatClampNeg) (0 : Int32) (4 : Int32) ) (va_cwS 3 hts gX4_year_X4_within rfl rfl rfl (by decide +kernel) ⟨Nat.le_of_ble_eq_true rfl, Nat.le_of_ble_eq_true rfl⟩) hP hD hS [] rfl (by decide) (w' := wM ad cI (M_fault' M v_fault)) rfl rfl rfl hl.1 rfl (Nat.le_of_ble_eq_true rfl) dX4_year_147 ⟨Nat.zero_le _, Nat.zero_le _⟩ (fun H locs hP hD hS => ?_)
        have hD : va_D A (wM ad cI (M_fault' M v_fault)) := hD
        refine lv_if_ne (tgt := 156) hx hb dX4_year_150 (by decide) (fun c_150 => ?_) (fun c_150 => ?_)
        · refine lv_iinc (v := (x8 + (1 : Int32))) (lv' := [(8, .int (x8 + (1 : Int32))), (0, .ref (ad 0)), (1, .int x1), (2, .int x2), (3, .int x3), (4, .int x4), (5, .int x5), (6, .int x6), (7, .int x7)]) hx hb dX4_year_156 hl (k := 8) rfl rfl (by decide) rfl (fun ls hl => ?_)
          refine lv_goto (tgt := 103) hx hb dX4_year_159 (by decide) ?_
          have hF : fL_X4_year_103 M x1 x2 x3 x4 x5 x6 x7 (k + 1) x8 v_fault = fL_X4_year_103 M x1 x2 x3 x4 x5 x6 x7 k (x8 + (1 : Int32)) v_fault := by rw [fL_X4_year_103, if_neg c_107, if_neg c_126, if_neg c_150]
          rw [hF]
          exact ih (x8 + (1 : Int32)) v_fault (ya_step hval c_107 (mi_r c_126)) (lp_pre h0 c_107) (lp_mu h0 c_107 hk) _ _ hP hD hS ls (lv_sub hl [1, 2, 3, 4, 5, 6, 7, 8, 0] rfl)
        · refine lv_bipush (v := (-2 : Int32)) hx hb dX4_year_153 (by decide) ?_
          have hF : fL_X4_year_103 M x1 x2 x3 x4 x5 x6 x7 (k + 1) x8 v_fault = ((-2 : Int32), (M_fault' M v_fault)) := by rw [fL_X4_year_103, if_neg c_107, if_neg c_126, if_pos c_150]
          rw [hF]
          exact kr_i B hP hS rfl rfl dX4_year_155
      · refine lv_iconst (v := (-1 : Int32)) hx hb dX4_year_129 (by decide) ?_
        have hF : fL_X4_year_103 M x1 x2 x3 x4 x5 x6 x7 (k + 1) x8 v_fault = ((-1 : Int32), (M_fault' M v_fault)) := by rw [fL_X4_year_103, if_neg c_107, if_pos c_126]
        rw [hF]
        exact kr_i B hP hS rfl rfl dX4_year_130
set_option maxHeartbeats 4000000 in
set_option maxRecDepth 100000 in
theorem c_X4_year (l : Launch) (D : va_G) (cI cO : ClassId) (tF : Nat) (ad : Nat → Nat) (M : MS) (x1 : Int32) (x2 : Int32) (x3 : Int32) (x4 : Int32) (x5 : Int32) (hn : (M_people M).toInt ≤ 6) (ht : ∀ i : Nat, (i : Int) < (M_people M).toInt → ¬ M_thick M i = 0) (hso : so (M_isIn M) (M_people M)) (hL : ∀ i : Nat, i < 4 → 0 ≤ (M_sheetLong M i).toInt ∧ (M_sheetLong M i).toInt ≤ 60) : Ct l yX4_year wsX4_year ({ frames := 6, cells := 0, slots := 0, locals := 140 }) D cI cO tF [.ref (ad 0), .int x1, .int x2, .int x3, .int x4, .int x5] (wM ad cI M) (some (.int ((f_X4_year M x1 x2 x3 x4 x5).1))) (wM ad cI ((f_X4_year M x1 x2 x3 x4 x5).2)) := by
  refine Ct.of (cc := cX4_year) (maxL := 10) (ret := (some .int)) (own := RX4) (by decide) rfl rfl (Nat.le_of_ble_eq_true rfl) ?_
  intro p e s m args below meth c A ls B hP hD hS hl
  obtain ⟨hx, hb, hret, hml, hts, hown, hlocks, hE, hA⟩ := id B
  have hK := hE.1
  have hl : lv_has ls 10 [(0, .ref (ad 0)), (1, .int x1), (2, .int x2), (3, .int x3), (4, .int x4), (5, .int x5)] := hl
  refine lv_aload_n hx hb dX4_year_0 rfl (lv_at hl 0 rfl) ?_
  refine lv_iconst (v := (0 : Int32)) hx hb dX4_year_1 (by decide) ?_
  refine va_put (D := D) (ci := 4) (v := .int (0 : Int32)) (ty := .int) (C := RX4) (T := TX4) (N := 24) hx hb hts iw_X4_year_4 tyX4 tyX4_ok nmX4 hown hK hP hD hS 0 rfl rfl 0 (by decide) (hts (.fieldLink RX4 46 "TownLispModel" "fault" "I") (by decide +kernel)) (fun _ h9 => h9) rfl (by decide +kernel) rfl rfl (Nat.le_of_ble_eq_true rfl) dX4_year_2 (fun H locs hP hD hS => ?_)
  have hP : va_P D vwCl (wM ad cI (M_fault' M (0 : Int32))) H := hP
  have hD : va_D A (wM ad cI (M_fault' M (0 : Int32))) := hD
  refine lv_iload_n hx hb dX4_year_5 rfl (lv_at hl 1 rfl) ?_
  refine kc_S (As := [.int x1]) (rest := []) B (c_X4_isSheet l D cI cO tF x1 ) (va_cwS 1 hts gX4_year_X4_isSheet rfl rfl rfl (by decide +kernel) ⟨Nat.le_of_ble_eq_true rfl, Nat.le_of_ble_eq_true rfl⟩) hP hD hS [] rfl (by decide) (w' := wM ad cI (M_fault' M (0 : Int32))) rfl rfl rfl hl.1 rfl (Nat.le_of_ble_eq_true rfl) dX4_year_6 ⟨Nat.zero_le _, Nat.zero_le _⟩ (fun H locs hP hD hS => ?_)
  have hD : va_D A (wM ad cI (M_fault' M (0 : Int32))) := hD
  refine lv_if_ne (tgt := 14) hx hb dX4_year_9 (by decide) (fun c_9 => ?_) (fun c_9 => ?_)
  · refine lv_iload_n hx hb dX4_year_14 rfl (lv_at hl 2 rfl) ?_
    refine kc_S (As := [.int x2]) (rest := []) B (c_X4_isSort l D cI cO tF x2 ) (va_cwS 1 hts gX4_year_X4_isSort rfl rfl rfl (by decide +kernel) ⟨Nat.le_of_ble_eq_true rfl, Nat.le_of_ble_eq_true rfl⟩) hP hD hS [] rfl (by decide) (w' := wM ad cI (M_fault' M (0 : Int32))) rfl rfl rfl hl.1 rfl (Nat.le_of_ble_eq_true rfl) dX4_year_15 ⟨Nat.zero_le _, Nat.zero_le _⟩ (fun H locs hP hD hS => ?_)
    have hD : va_D A (wM ad cI (M_fault' M (0 : Int32))) := hD
    refine lv_if_eq (tgt := 54) hx hb dX4_year_18 (by decide) (fun c_18 => ?_) (fun c_18 => ?_)
    · refine lv_bipush (v := (-2 : Int32)) hx hb dX4_year_54 (by decide) ?_
      have hF : f_X4_year M x1 x2 x3 x4 x5 = ((-2 : Int32), (M_fault' M (0 : Int32))) := by rw [f_X4_year, if_neg c_9, if_pos c_18]
      rw [hF]
      exact kr_i B hP hS rfl rfl dX4_year_56
    · refine lv_iload hx hb dX4_year_21 (lv_at hl 4 rfl) ?_
      refine lv_iconst (v := (0 : Int32)) hx hb dX4_year_23 (by decide) ?_
      refine lv_bipush (v := (20 : Int32)) hx hb dX4_year_24 (by decide) ?_
      refine kc_S (As := [.int x4, .int (0 : Int32), .int (20 : Int32)]) (rest := []) B (c_X4_within l D cI cO tF x4 (0 : Int32) (20 : Int32) ) (va_cwS 3 hts gX4_year_X4_within rfl rfl rfl (by decide +kernel) ⟨Nat.le_of_ble_eq_true rfl, Nat.le_of_ble_eq_true rfl⟩) hP hD hS [] rfl (by decide) (w' := wM ad cI (M_fault' M (0 : Int32))) rfl rfl rfl hl.1 rfl (Nat.le_of_ble_eq_true rfl) dX4_year_26 ⟨Nat.zero_le _, Nat.zero_le _⟩ (fun H locs hP hD hS => ?_)
      have hD : va_D A (wM ad cI (M_fault' M (0 : Int32))) := hD
      refine lv_if_eq (tgt := 54) hx hb dX4_year_29 (by decide) (fun c_29 => ?_) (fun c_29 => ?_)
      · refine lv_bipush (v := (-2 : Int32)) hx hb dX4_year_54 (by decide) ?_
        have hF : f_X4_year M x1 x2 x3 x4 x5 = ((-2 : Int32), (M_fault' M (0 : Int32))) := by rw [f_X4_year, if_neg c_9, if_neg c_18, if_pos c_29]
        rw [hF]
        exact kr_i B hP hS rfl rfl dX4_year_56
      · refine lv_iload hx hb dX4_year_32 (lv_at hl 5 rfl) ?_
        refine lv_iconst (v := (0 : Int32)) hx hb dX4_year_34 (by decide) ?_
        refine lv_iconst (v := (3 : Int32)) hx hb dX4_year_35 (by decide) ?_
        refine kc_S (As := [.int x5, .int (0 : Int32), .int (3 : Int32)]) (rest := []) B (c_X4_within l D cI cO tF x5 (0 : Int32) (3 : Int32) ) (va_cwS 3 hts gX4_year_X4_within rfl rfl rfl (by decide +kernel) ⟨Nat.le_of_ble_eq_true rfl, Nat.le_of_ble_eq_true rfl⟩) hP hD hS [] rfl (by decide) (w' := wM ad cI (M_fault' M (0 : Int32))) rfl rfl rfl hl.1 rfl (Nat.le_of_ble_eq_true rfl) dX4_year_36 ⟨Nat.zero_le _, Nat.zero_le _⟩ (fun H locs hP hD hS => ?_)
        have hD : va_D A (wM ad cI (M_fault' M (0 : Int32))) := hD
        refine lv_if_ne (tgt := 57) hx hb dX4_year_39 (by decide) (fun c_39 => ?_) (fun c_39 => ?_)
        · refine lv_aload_n hx hb dX4_year_57 rfl (lv_at hl 0 rfl) ?_
          refine lv_iload_n hx hb dX4_year_58 rfl (lv_at hl 1 rfl) ?_
          refine lv_iload_n hx hb dX4_year_59 rfl (lv_at hl 2 rfl) ?_
          refine lv_iload_n hx hb dX4_year_60 rfl (lv_at hl 3 rfl) ?_
          refine lv_iconst (v := (2 : Int32)) hx hb dX4_year_61 (by decide) ?_
          refine lv_iload hx hb dX4_year_62 (lv_at hl 4 rfl) ?_
          refine lv_imul hx hb dX4_year_64 ?_
          refine kc_V (As := [.int x1, .int x2, .int x3, .int ((2 : Int32) * x4)]) (rest := []) B (c_X4_against l D cI cO tF ad (M_fault' M (0 : Int32)) x1 x2 x3 ((2 : Int32) * x4) (sh_in c_9)) (cwV 4 hts gX4_year_X4_against rfl rfl rfl (by decide +kernel) ⟨Nat.le_of_ble_eq_true rfl, Nat.le_of_ble_eq_true rfl⟩) hP hD hS [0, 1, 2, 3, 4, 5, 6, 7, 8, 9, 10, 11, 12] wM_subA (by decide) (w' := wM ad cI (M_fault' M (0 : Int32))) (wM_setA _) (wM_fst _) 0 4 rfl rfl rfl rfl hl.1 rfl (Nat.le_of_ble_eq_true rfl) dX4_year_65 ⟨Nat.zero_le _, Nat.zero_le _⟩ (fun H locs hP hD hS => ?_)
          have hD : va_D A (wM ad cI (M_fault' M (0 : Int32))) := hD
          refine lv_istore (lv' := [(6, .int (f_X4_against (M_fault' M (0 : Int32)) x1 x2 x3 ((2 : Int32) * x4))), (0, .ref (ad 0)), (1, .int x1), (2, .int x2), (3, .int x3), (4, .int x4), (5, .int x5)]) hx hb dX4_year_68 hl (by decide) rfl (fun ls hl => ?_)
          refine lv_iload hx hb dX4_year_70 (lv_at hl 0 rfl) ?_
          refine lv_if_eq (tgt := 82) hx hb dX4_year_72 (by decide) (fun c_72 => ?_) (fun c_72 => ?_)
          · refine lv_aload_n hx hb dX4_year_82 rfl (lv_at hl 1 rfl) ?_
            refine va_get (D := D) (ci := 4) (v := .int (M_people M)) (C := RX4) (T := TX4) (N := 24) hx hb hts iw_X4_year_4 hown hK hP 0 rfl rfl 5 (by decide) (hts (.fieldLink RX4 56 "TownLispModel" "people" "I") (by decide +kernel)) (fun _ h9 => h9) rfl dX4_year_83 ?_
            refine lv_if_ne (tgt := 92) hx hb dX4_year_86 (by decide) (fun c_86 => ?_) (fun c_86 => ?_)
            · refine lv_bipush (v := (60 : Int32)) hx hb dX4_year_92 (by decide) ?_
              refine lv_iload_n hx hb dX4_year_94 rfl (lv_at hl 2 rfl) ?_
              refine lv_imul hx hb dX4_year_95 ?_
              refine lv_iload_n hx hb dX4_year_96 rfl (lv_at hl 4 rfl) ?_
              refine lv_iadd hx hb dX4_year_97 ?_
              refine lv_istore (lv' := [(7, .int (((60 : Int32) * x1) + x3)), (6, .int (f_X4_against (M_fault' M (0 : Int32)) x1 x2 x3 ((2 : Int32) * x4))), (0, .ref (ad 0)), (1, .int x1), (2, .int x2), (3, .int x3), (4, .int x4), (5, .int x5)]) hx hb dX4_year_98 hl (by decide) rfl (fun ls hl => ?_)
              refine lv_iconst (v := (0 : Int32)) hx hb dX4_year_100 (by decide) ?_
              refine lv_istore (lv' := [(8, .int (0 : Int32)), (7, .int (((60 : Int32) * x1) + x3)), (6, .int (f_X4_against (M_fault' M (0 : Int32)) x1 x2 x3 ((2 : Int32) * x4))), (0, .ref (ad 0)), (1, .int x1), (2, .int x2), (3, .int x3), (4, .int x4), (5, .int x5)]) hx hb dX4_year_101 hl (by decide) rfl (fun ls hl => ?_)
              have hF : f_X4_year M x1 x2 x3 x4 x5 = fL_X4_year_103 M x1 x2 x3 x4 x5 (f_X4_against (M_fault' M (0 : Int32)) x1 x2 x3 ((2 : Int32) * x4)) (((60 : Int32) * x1) + x3) (x4.toInt.toNat + 1) (0 : Int32) (0 : Int32) := by rw [f_X4_year, if_neg c_9, if_neg c_18, if_neg c_29, if_neg c_39, if_pos c_72, if_neg c_86]
              rw [hF]
              exact L_X4_year_103 l D cI cO tF ad M x1 x2 x3 x4 x5 (f_X4_against (M_fault' M (0 : Int32)) x1 x2 x3 ((2 : Int32) * x4)) (((60 : Int32) * x1) + x3) hn ht hso hL B (ya_ix hL (sh_in c_9) c_29 c_72) (x4.toInt.toNat + 1) (0 : Int32) (0 : Int32) (ya_0) (Int.le_refl _) (by rw [show (0 : Int32).toInt = 0 from rfl]; omega) _ _ hP hD hS ls (lv_sub hl [3, 4, 5, 6, 7, 8, 2, 1, 0] rfl)
            · refine lv_bipush (v := (-3 : Int32)) hx hb dX4_year_89 (by decide) ?_
              have hF : f_X4_year M x1 x2 x3 x4 x5 = ((-3 : Int32), (M_fault' M (0 : Int32))) := by rw [f_X4_year, if_neg c_9, if_neg c_18, if_neg c_29, if_neg c_39, if_pos c_72, if_pos c_86]
              rw [hF]
              exact kr_i B hP hS rfl rfl dX4_year_91
          · refine lv_aload_n hx hb dX4_year_75 rfl (lv_at hl 1 rfl) ?_
            refine lv_iload hx hb dX4_year_76 (lv_at hl 0 rfl) ?_
            refine kc_V (As := [.int (f_X4_against (M_fault' M (0 : Int32)) x1 x2 x3 ((2 : Int32) * x4))]) (rest := []) B (c_X4_fails l D cI cO tF ad (M_fault' M (0 : Int32)) (f_X4_against (M_fault' M (0 : Int32)) x1 x2 x3 ((2 : Int32) * x4)) ) (cwV 1 hts gX4_year_X4_fails rfl rfl rfl (by decide +kernel) ⟨Nat.le_of_ble_eq_true rfl, Nat.le_of_ble_eq_true rfl⟩) hP hD hS [0, 1, 2, 3, 4, 5, 6, 7, 8, 9, 10, 11, 12] wM_subA (by decide) (w' := wM ad cI ((f_X4_fails (M_fault' M (0 : Int32)) (f_X4_against (M_fault' M (0 : Int32)) x1 x2 x3 ((2 : Int32) * x4))).2)) (wM_setA _) (wM_fst _) 0 4 rfl rfl rfl rfl hl.1 rfl (Nat.le_of_ble_eq_true rfl) dX4_year_78 ⟨Nat.zero_le _, Nat.zero_le _⟩ (fun H locs hP hD hS => ?_)
            have hD : va_D A (wM ad cI ((f_X4_fails (M_fault' M (0 : Int32)) (f_X4_against (M_fault' M (0 : Int32)) x1 x2 x3 ((2 : Int32) * x4))).2)) := hD
            have hF : f_X4_year M x1 x2 x3 x4 x5 = ((f_X4_fails (M_fault' M (0 : Int32)) (f_X4_against (M_fault' M (0 : Int32)) x1 x2 x3 ((2 : Int32) * x4))).1, (f_X4_fails (M_fault' M (0 : Int32)) (f_X4_against (M_fault' M (0 : Int32)) x1 x2 x3 ((2 : Int32) * x4))).2) := by rw [f_X4_year, if_neg c_9, if_neg c_18, if_neg c_29, if_neg c_39, if_neg c_72]
            rw [hF]
            exact kr_i B hP hS rfl rfl dX4_year_81
        · refine lv_iload hx hb dX4_year_42 (lv_at hl 5 rfl) ?_
          refine lv_bipush (v := (10 : Int32)) hx hb dX4_year_44 (by decide) ?_
          refine lv_bipush (v := (15 : Int32)) hx hb dX4_year_46 (by decide) ?_
          refine kc_S (As := [.int x5, .int (10 : Int32), .int (15 : Int32)]) (rest := []) B (c_X4_within l D cI cO tF x5 (10 : Int32) (15 : Int32) ) (va_cwS 3 hts gX4_year_X4_within rfl rfl rfl (by decide +kernel) ⟨Nat.le_of_ble_eq_true rfl, Nat.le_of_ble_eq_true rfl⟩) hP hD hS [] rfl (by decide) (w' := wM ad cI (M_fault' M (0 : Int32))) rfl rfl rfl hl.1 rfl (Nat.le_of_ble_eq_true rfl) dX4_year_48 ⟨Nat.zero_le _, Nat.zero_le _⟩ (fun H locs hP hD hS => ?_)
          have hD : va_D A (wM ad cI (M_fault' M (0 : Int32))) := hD
          refine lv_if_ne (tgt := 57) hx hb dX4_year_51 (by decide) (fun c_51 => ?_) (fun c_51 => ?_)
          · refine lv_aload_n hx hb dX4_year_57 rfl (lv_at hl 0 rfl) ?_
            refine lv_iload_n hx hb dX4_year_58 rfl (lv_at hl 1 rfl) ?_
            refine lv_iload_n hx hb dX4_year_59 rfl (lv_at hl 2 rfl) ?_
            refine lv_iload_n hx hb dX4_year_60 rfl (lv_at hl 3 rfl) ?_
            refine lv_iconst (v := (2 : Int32)) hx hb dX4_year_61 (by decide) ?_
            refine lv_iload hx hb dX4_year_62 (lv_at hl 4 rfl) ?_
            refine lv_imul hx hb dX4_year_64 ?_
            refine kc_V (As := [.int x1, .int x2, .int x3, .int ((2 : Int32) * x4)]) (rest := []) B (c_X4_against l D cI cO tF ad (M_fault' M (0 : Int32)) x1 x2 x3 ((2 : Int32) * x4) (sh_in c_9)) (cwV 4 hts gX4_year_X4_against rfl rfl rfl (by decide +kernel) ⟨Nat.le_of_ble_eq_true rfl, Nat.le_of_ble_eq_true rfl⟩) hP hD hS [0, 1, 2, 3, 4, 5, 6, 7, 8, 9, 10, 11, 12] wM_subA (by decide) (w' := wM ad cI (M_fault' M (0 : Int32))) (wM_setA _) (wM_fst _) 0 4 rfl rfl rfl rfl hl.1 rfl (Nat.le_of_ble_eq_true rfl) dX4_year_65 ⟨Nat.zero_le _, Nat.zero_le _⟩ (fun H locs hP hD hS => ?_)
            have hD : va_D A (wM ad cI (M_fault' M (0 : Int32))) := hD
            refine lv_istore (lv' := [(6, .int (f_X4_against (M_fault' M (0 : Int32)) x1 x2 x3 ((2 : Int32) * x4))), (0, .ref (ad 0)), (1, .int x1), (2, .int x2), (3, .int x3), (4, .int x4), (5, .int x5)]) hx hb dX4_year_68 hl (by decide) rfl (fun ls hl => ?_)
            refine lv_iload hx hb dX4_year_70 (lv_at hl 0 rfl) ?_
            refine lv_if_eq (tgt := 82) hx hb dX4_year_72 (by decide) (fun c_72 => ?_) (fun c_72 => ?_)
            · refine lv_aload_n hx hb dX4_year_82 rfl (lv_at hl 1 rfl) ?_
              refine va_get (D := D) (ci := 4) (v := .int (M_people M)) (C := RX4) (T := TX4) (N := 24) hx hb hts iw_X4_year_4 hown hK hP 0 rfl rfl 5 (by decide) (hts (.fieldLink RX4 56 "TownLispModel" "people" "I") (by decide +kernel)) (fun _ h9 => h9) rfl dX4_year_83 ?_
              refine lv_if_ne (tgt := 92) hx hb dX4_year_86 (by decide) (fun c_86 => ?_) (fun c_86 => ?_)
              · refine lv_bipush (v := (60 : Int32)) hx hb dX4_year_92 (by decide) ?_
                refine lv_iload_n hx hb dX4_year_94 rfl (lv_at hl 2 rfl) ?_
                refine lv_imul hx hb dX4_year_95 ?_
                refine lv_iload_n hx hb dX4_year_96 rfl (lv_at hl 4 rfl) ?_
                refine lv_iadd hx hb dX4_year_97 ?_
                refine lv_istore (lv' := [(7, .int (((60 : Int32) * x1) + x3)), (6, .int (f_X4_against (M_fault' M (0 : Int32)) x1 x2 x3 ((2 : Int32) * x4))), (0, .ref (ad 0)), (1, .int x1), (2, .int x2), (3, .int x3), (4, .int x4), (5, .int x5)]) hx hb dX4_year_98 hl (by decide) rfl (fun ls hl => ?_)
                refine lv_iconst (v := (0 : Int32)) hx hb dX4_year_100 (by decide) ?_
                refine lv_istore (lv' := [(8, .int (0 : Int32)), (7, .int (((60 : Int32) * x1) + x3)), (6, .int (f_X4_against (M_fault' M (0 : Int32)) x1 x2 x3 ((2 : Int32) * x4))), (0, .ref (ad 0)), (1, .int x1), (2, .int x2), (3, .int x3), (4, .int x4), (5, .int x5)]) hx hb dX4_year_101 hl (by decide) rfl (fun ls hl => ?_)
                have hF : f_X4_year M x1 x2 x3 x4 x5 = fL_X4_year_103 M x1 x2 x3 x4 x5 (f_X4_against (M_fault' M (0 : Int32)) x1 x2 x3 ((2 : Int32) * x4)) (((60 : Int32) * x1) + x3) (x4.toInt.toNat + 1) (0 : Int32) (0 : Int32) := by rw [f_X4_year, if_neg c_9, if_neg c_18, if_neg c_29, if_pos c_39, if_neg c_51, if_pos c_72, if_neg c_86]
                rw [hF]
                exact L_X4_year_103 l D cI cO tF ad M x1 x2 x3 x4 x5 (f_X4_against (M_fault' M (0 : Int32)) x1 x2 x3 ((2 : Int32) * x4)) (((60 : Int32) * x1) + x3) hn ht hso hL B (ya_ix hL (sh_in c_9) c_29 c_72) (x4.toInt.toNat + 1) (0 : Int32) (0 : Int32) (ya_0) (Int.le_refl _) (by rw [show (0 : Int32).toInt = 0 from rfl]; omega) _ _ hP hD hS ls (lv_sub hl [3, 4, 5, 6, 7, 8, 2, 1, 0] rfl)
              · refine lv_bipush (v := (-3 : Int32)) hx hb dX4_year_89 (by decide) ?_
                have hF : f_X4_year M x1 x2 x3 x4 x5 = ((-3 : Int32), (M_fault' M (0 : Int32))) := by rw [f_X4_year, if_neg c_9, if_neg c_18, if_neg c_29, if_pos c_39, if_neg c_51, if_pos c_72, if_pos c_86]
                rw [hF]
                exact kr_i B hP hS rfl rfl dX4_year_91
            · refine lv_aload_n hx hb dX4_year_75 rfl (lv_at hl 1 rfl) ?_
              refine lv_iload hx hb dX4_year_76 (lv_at hl 0 rfl) ?_
              refine kc_V (As := [.int (f_X4_against (M_fault' M (0 : Int32)) x1 x2 x3 ((2 : Int32) * x4))]) (rest := []) B (c_X4_fails l D cI cO tF ad (M_fault' M (0 : Int32)) (f_X4_against (M_fault' M (0 : Int32)) x1 x2 x3 ((2 : Int32) * x4)) ) (cwV 1 hts gX4_year_X4_fails rfl rfl rfl (by decide +kernel) ⟨Nat.le_of_ble_eq_true rfl, Nat.le_of_ble_eq_true rfl⟩) hP hD hS [0, 1, 2, 3, 4, 5, 6, 7, 8, 9, 10, 11, 12] wM_subA (by decide) (w' := wM ad cI ((f_X4_fails (M_fault' M (0 : Int32)) (f_X4_against (M_fault' M (0 : Int32)) x1 x2 x3 ((2 : Int32) * x4))).2)) (wM_setA _) (wM_fst _) 0 4 rfl rfl rfl rfl hl.1 rfl (Nat.le_of_ble_eq_true rfl) dX4_year_78 ⟨Nat.zero_le _, Nat.zero_le _⟩ (fun H locs hP hD hS => ?_)
              have hD : va_D A (wM ad cI ((f_X4_fails (M_fault' M (0 : Int32)) (f_X4_against (M_fault' M (0 : Int32)) x1 x2 x3 ((2 : Int32) * x4))).2)) := hD
              have hF : f_X4_year M x1 x2 x3 x4 x5 = ((f_X4_fails (M_fault' M (0 : Int32)) (f_X4_against (M_fault' M (0 : Int32)) x1 x2 x3 ((2 : Int32) * x4))).1, (f_X4_fails (M_fault' M (0 : Int32)) (f_X4_against (M_fault' M (0 : Int32)) x1 x2 x3 ((2 : Int32) * x4))).2) := by rw [f_X4_year, if_neg c_9, if_neg c_18, if_neg c_29, if_pos c_39, if_neg c_51, if_neg c_72]
              rw [hF]
              exact kr_i B hP hS rfl rfl dX4_year_81
          · refine lv_bipush (v := (-2 : Int32)) hx hb dX4_year_54 (by decide) ?_
            have hF : f_X4_year M x1 x2 x3 x4 x5 = ((-2 : Int32), (M_fault' M (0 : Int32))) := by rw [f_X4_year, if_neg c_9, if_neg c_18, if_neg c_29, if_pos c_39, if_pos c_51]
            rw [hF]
            exact kr_i B hP hS rfl rfl dX4_year_56
  · refine lv_iconst (v := (-1 : Int32)) hx hb dX4_year_12 (by decide) ?_
    have hF : f_X4_year M x1 x2 x3 x4 x5 = ((-1 : Int32), (M_fault' M (0 : Int32))) := by rw [f_X4_year, if_pos c_9]
    rw [hF]
    exact kr_i B hP hS rfl rfl dX4_year_13
