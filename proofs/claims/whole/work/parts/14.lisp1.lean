def f_X3_isLane (x0 : Int32) : Int32 := (if x0 < 0 then (0 : Int32) else (if (2 : Int32) < x0 then (0 : Int32) else (1 : Int32)))
theorem bb_X3_isLane (x0 : Int32) : f_X3_isLane x0 = 0 ∨ f_X3_isLane x0 = 1 := by
  unfold f_X3_isLane
  repeat' split
  all_goals first | exact Or.inl rfl | exact Or.inr rfl
set_option maxHeartbeats 4000000 in
set_option maxRecDepth 100000 in
theorem c_X3_isLane (l : Launch) (D : va_G) (cI cO : ClassId) (tF : Nat) (x0 : Int32) : Ct l yX3_isLane wsX3_isLane ({ frames := 0, cells := 0, slots := 0, locals := 0 }) D cI cO tF [.int x0] ([]) (some (.int (f_X3_isLane x0))) ([]) := by
  refine Ct.of (cc := cX3_isLane) (maxL := 1) (ret := (some .boolean)) (own := RX3) (by decide) rfl rfl (Nat.le_of_ble_eq_true rfl) ?_
  intro p e s m args below meth c A ls B hP hD hS hl
  obtain ⟨hx, hb, hret, hml, hts, hown, hlocks, hE, hA⟩ := id B
  have hK := hE.1
  have hl : lv_has ls 1 [(0, .int x0)] := hl
  refine lv_iload_n hx hb dX3_isLane_0 rfl (lv_at hl 0 rfl) ?_
  refine lv_if_lt (tgt := 13) hx hb dX3_isLane_1 (by decide) (fun c_1 => ?_) (fun c_1 => ?_)
  · refine lv_iconst (v := (0 : Int32)) hx hb dX3_isLane_13 (by decide) ?_
    have hF : f_X3_isLane x0 = (0 : Int32) := by rw [f_X3_isLane, if_pos c_1]
    rw [hF]
    exact kr_z B hP hS rfl rfl (Or.inl rfl) dX3_isLane_14
  · refine lv_iload_n hx hb dX3_isLane_4 rfl (lv_at hl 0 rfl) ?_
    refine lv_iconst (v := (2 : Int32)) hx hb dX3_isLane_5 (by decide) ?_
    refine lv_icmp_gt (tgt := 13) hx hb dX3_isLane_6 (by decide) (fun c_6 => ?_) (fun c_6 => ?_)
    · refine lv_iconst (v := (0 : Int32)) hx hb dX3_isLane_13 (by decide) ?_
      have hF : f_X3_isLane x0 = (0 : Int32) := by rw [f_X3_isLane, if_neg c_1, if_pos c_6]
      rw [hF]
      exact kr_z B hP hS rfl rfl (Or.inl rfl) dX3_isLane_14
    · refine lv_iconst (v := (1 : Int32)) hx hb dX3_isLane_9 (by decide) ?_
      refine lv_goto (tgt := 14) hx hb dX3_isLane_10 (by decide) ?_
      have hF : f_X3_isLane x0 = (1 : Int32) := by rw [f_X3_isLane, if_neg c_1, if_neg c_6]
      rw [hF]
      exact kr_z B hP hS rfl rfl (Or.inr rfl) dX3_isLane_14
def f_X3_isHalfOfShare (x0 : Int32) : Int32 := (if x0 = 0 then (1 : Int32) else (if x0 = (1 : Int32) then (1 : Int32) else (0 : Int32)))
theorem bb_X3_isHalfOfShare (x0 : Int32) : f_X3_isHalfOfShare x0 = 0 ∨ f_X3_isHalfOfShare x0 = 1 := by
  unfold f_X3_isHalfOfShare
  repeat' split
  all_goals first | exact Or.inl rfl | exact Or.inr rfl
set_option maxHeartbeats 4000000 in
set_option maxRecDepth 100000 in
theorem c_X3_isHalfOfShare (l : Launch) (D : va_G) (cI cO : ClassId) (tF : Nat) (x0 : Int32) : Ct l yX3_isHalfOfShare wsX3_isHalfOfShare ({ frames := 0, cells := 0, slots := 0, locals := 0 }) D cI cO tF [.int x0] ([]) (some (.int (f_X3_isHalfOfShare x0))) ([]) := by
  refine Ct.of (cc := cX3_isHalfOfShare) (maxL := 1) (ret := (some .boolean)) (own := RX3) (by decide) rfl rfl (Nat.le_of_ble_eq_true rfl) ?_
  intro p e s m args below meth c A ls B hP hD hS hl
  obtain ⟨hx, hb, hret, hml, hts, hown, hlocks, hE, hA⟩ := id B
  have hK := hE.1
  have hl : lv_has ls 1 [(0, .int x0)] := hl
  refine lv_iload_n hx hb dX3_isHalfOfShare_0 rfl (lv_at hl 0 rfl) ?_
  refine lv_if_eq (tgt := 9) hx hb dX3_isHalfOfShare_1 (by decide) (fun c_1 => ?_) (fun c_1 => ?_)
  · refine lv_iconst (v := (1 : Int32)) hx hb dX3_isHalfOfShare_9 (by decide) ?_
    refine lv_goto (tgt := 14) hx hb dX3_isHalfOfShare_10 (by decide) ?_
    have hF : f_X3_isHalfOfShare x0 = (1 : Int32) := by rw [f_X3_isHalfOfShare, if_pos c_1]
    rw [hF]
    exact kr_z B hP hS rfl rfl (Or.inr rfl) dX3_isHalfOfShare_14
  · refine lv_iload_n hx hb dX3_isHalfOfShare_4 rfl (lv_at hl 0 rfl) ?_
    refine lv_iconst (v := (1 : Int32)) hx hb dX3_isHalfOfShare_5 (by decide) ?_
    refine lv_icmp_ne (tgt := 13) hx hb dX3_isHalfOfShare_6 (by decide) (fun c_6 => ?_) (fun c_6 => ?_)
    · refine lv_iconst (v := (0 : Int32)) hx hb dX3_isHalfOfShare_13 (by decide) ?_
      have hF : f_X3_isHalfOfShare x0 = (0 : Int32) := by rw [f_X3_isHalfOfShare, if_neg c_1, if_neg c_6]
      rw [hF]
      exact kr_z B hP hS rfl rfl (Or.inl rfl) dX3_isHalfOfShare_14
    · refine lv_iconst (v := (1 : Int32)) hx hb dX3_isHalfOfShare_9 (by decide) ?_
      refine lv_goto (tgt := 14) hx hb dX3_isHalfOfShare_10 (by decide) ?_
      have hF : f_X3_isHalfOfShare x0 = (1 : Int32) := by rw [f_X3_isHalfOfShare, if_neg c_1, if_pos c_6]
      rw [hF]
      exact kr_z B hP hS rfl rfl (Or.inr rfl) dX3_isHalfOfShare_14
def f_X3_isBetween (x0 : Int32) (x1 : Int32) (x2 : Int32) : Int32 := (if x0 < x1 then (0 : Int32) else (if x2 < x0 then (0 : Int32) else (1 : Int32)))
theorem bb_X3_isBetween (x0 : Int32) (x1 : Int32) (x2 : Int32) : f_X3_isBetween x0 x1 x2 = 0 ∨ f_X3_isBetween x0 x1 x2 = 1 := by
  unfold f_X3_isBetween
  repeat' split
  all_goals first | exact Or.inl rfl | exact Or.inr rfl
set_option maxHeartbeats 4000000 in
set_option maxRecDepth 100000 in
theorem c_X3_isBetween (l : Launch) (D : va_G) (cI cO : ClassId) (tF : Nat) (x0 : Int32) (x1 : Int32) (x2 : Int32) : Ct l yX3_isBetween wsX3_isBetween ({ frames := 0, cells := 0, slots := 0, locals := 0 }) D cI cO tF [.int x0, .int x1, .int x2] ([]) (some (.int (f_X3_isBetween x0 x1 x2))) ([]) := by
  refine Ct.of (cc := cX3_isBetween) (maxL := 3) (ret := (some .boolean)) (own := RX3) (by decide) rfl rfl (Nat.le_of_ble_eq_true rfl) ?_
  intro p e s m args below meth c A ls B hP hD hS hl
  obtain ⟨hx, hb, hret, hml, hts, hown, hlocks, hE, hA⟩ := id B
  have hK := hE.1
  have hl : lv_has ls 3 [(0, .int x0), (1, .int x1), (2, .int x2)] := hl
  refine lv_iload_n hx hb dX3_isBetween_0 rfl (lv_at hl 0 rfl) ?_
  refine lv_iload_n hx hb dX3_isBetween_1 rfl (lv_at hl 1 rfl) ?_
  refine lv_icmp_lt (tgt := 14) hx hb dX3_isBetween_2 (by decide) (fun c_2 => ?_) (fun c_2 => ?_)
  · refine lv_iconst (v := (0 : Int32)) hx hb dX3_isBetween_14 (by decide) ?_
    have hF : f_X3_isBetween x0 x1 x2 = (0 : Int32) := by rw [f_X3_isBetween, if_pos c_2]
    rw [hF]
    exact kr_z B hP hS rfl rfl (Or.inl rfl) dX3_isBetween_15
  · refine lv_iload_n hx hb dX3_isBetween_5 rfl (lv_at hl 0 rfl) ?_
    refine lv_iload_n hx hb dX3_isBetween_6 rfl (lv_at hl 2 rfl) ?_
    refine lv_icmp_gt (tgt := 14) hx hb dX3_isBetween_7 (by decide) (fun c_7 => ?_) (fun c_7 => ?_)
    · refine lv_iconst (v := (0 : Int32)) hx hb dX3_isBetween_14 (by decide) ?_
      have hF : f_X3_isBetween x0 x1 x2 = (0 : Int32) := by rw [f_X3_isBetween, if_neg c_2, if_pos c_7]
      rw [hF]
      exact kr_z B hP hS rfl rfl (Or.inl rfl) dX3_isBetween_15
    · refine lv_iconst (v := (1 : Int32)) hx hb dX3_isBetween_10 (by decide) ?_
      refine lv_goto (tgt := 15) hx hb dX3_isBetween_11 (by decide) ?_
      have hF : f_X3_isBetween x0 x1 x2 = (1 : Int32) := by rw [f_X3_isBetween, if_neg c_2, if_neg c_7]
      rw [hF]
      exact kr_z B hP hS rfl rfl (Or.inr rfl) dX3_isBetween_15
def f_X3_personGoesOn (x0 : Int32) (x1 : Int32) : Int32 := (if x0 = (0 : Int32) then (if x1 = (59 : Int32) then (1 : Int32) else (0 : Int32)) else (if x0 = (1 : Int32) then (if x1 = (111 : Int32) then (1 : Int32) else (if x1 = (115 : Int32) then (1 : Int32) else (if x1 = (99 : Int32) then (1 : Int32) else (0 : Int32)))) else (if x0 = (2 : Int32) then (f_X3_isBetween x1 (48 : Int32) (51 : Int32)) else (if x0 = (3 : Int32) then (f_X3_isBetween x1 (48 : Int32) (57 : Int32)) else (if x0 = (4 : Int32) then (f_X3_isBetween x1 (49 : Int32) (57 : Int32)) else (f_X3_isBetween x1 (48 : Int32) (49 : Int32)))))))
theorem bb_X3_personGoesOn (x0 : Int32) (x1 : Int32) : f_X3_personGoesOn x0 x1 = 0 ∨ f_X3_personGoesOn x0 x1 = 1 := by
  unfold f_X3_personGoesOn
  repeat' split
  all_goals first | exact Or.inl rfl | exact Or.inr rfl | exact bb_X3_isBetween _ _ _
set_option maxHeartbeats 4000000 in
set_option maxRecDepth 100000 in
theorem c_X3_personGoesOn (l : Launch) (D : va_G) (cI cO : ClassId) (tF : Nat) (x0 : Int32) (x1 : Int32) : Ct l yX3_personGoesOn wsX3_personGoesOn ({ frames := 1, cells := 0, slots := 0, locals := 22 }) D cI cO tF [.int x0, .int x1] ([]) (some (.int (f_X3_personGoesOn x0 x1))) ([]) := by
  refine Ct.of (cc := cX3_personGoesOn) (maxL := 2) (ret := (some .boolean)) (own := RX3) (by decide) rfl rfl (Nat.le_of_ble_eq_true rfl) ?_
  intro p e s m args below meth c A ls B hP hD hS hl
  obtain ⟨hx, hb, hret, hml, hts, hown, hlocks, hE, hA⟩ := id B
  have hK := hE.1
  have hl : lv_has ls 2 [(0, .int x0), (1, .int x1)] := hl
  refine lv_iload_n hx hb dX3_personGoesOn_0 rfl (lv_at hl 0 rfl) ?_
  by_cases c_1_0 : x0 = (0 : Int32)
  · refine lv_tableIn (off := 35) (tgt := 36) hx hb dX3_personGoesOn_1 (by rw [c_1_0]; decide) (by rw [c_1_0]; decide) (by rw [c_1_0]; rfl) (by decide) ?_
    refine lv_iload_n hx hb dX3_personGoesOn_36 rfl (lv_at hl 1 rfl) ?_
    refine lv_bipush (v := (59 : Int32)) hx hb dX3_personGoesOn_37 (by decide) ?_
    refine lv_icmp_ne (tgt := 46) hx hb dX3_personGoesOn_39 (by decide) (fun c_39 => ?_) (fun c_39 => ?_)
    · refine lv_iconst (v := (0 : Int32)) hx hb dX3_personGoesOn_46 (by decide) ?_
      have hF : f_X3_personGoesOn x0 x1 = (0 : Int32) := by rw [f_X3_personGoesOn, if_pos c_1_0, if_neg c_39]
      rw [hF]
      exact kr_z B hP hS rfl rfl (Or.inl rfl) dX3_personGoesOn_47
    · refine lv_iconst (v := (1 : Int32)) hx hb dX3_personGoesOn_42 (by decide) ?_
      refine lv_goto (tgt := 47) hx hb dX3_personGoesOn_43 (by decide) ?_
      have hF : f_X3_personGoesOn x0 x1 = (1 : Int32) := by rw [f_X3_personGoesOn, if_pos c_1_0, if_pos c_39]
      rw [hF]
      exact kr_z B hP hS rfl rfl (Or.inr rfl) dX3_personGoesOn_47
  by_cases c_1_1 : x0 = (1 : Int32)
  · refine lv_tableIn (off := 47) (tgt := 48) hx hb dX3_personGoesOn_1 (by rw [c_1_1]; decide) (by rw [c_1_1]; decide) (by rw [c_1_1]; rfl) (by decide) ?_
    refine lv_iload_n hx hb dX3_personGoesOn_48 rfl (lv_at hl 1 rfl) ?_
    refine lv_bipush (v := (111 : Int32)) hx hb dX3_personGoesOn_49 (by decide) ?_
    refine lv_icmp_eq (tgt := 66) hx hb dX3_personGoesOn_51 (by decide) (fun c_51 => ?_) (fun c_51 => ?_)
    · refine lv_iconst (v := (1 : Int32)) hx hb dX3_personGoesOn_66 (by decide) ?_
      refine lv_goto (tgt := 71) hx hb dX3_personGoesOn_67 (by decide) ?_
      have hF : f_X3_personGoesOn x0 x1 = (1 : Int32) := by rw [f_X3_personGoesOn, if_neg c_1_0, if_pos c_1_1, if_pos c_51]
      rw [hF]
      exact kr_z B hP hS rfl rfl (Or.inr rfl) dX3_personGoesOn_71
    · refine lv_iload_n hx hb dX3_personGoesOn_54 rfl (lv_at hl 1 rfl) ?_
      refine lv_bipush (v := (115 : Int32)) hx hb dX3_personGoesOn_55 (by decide) ?_
      refine lv_icmp_eq (tgt := 66) hx hb dX3_personGoesOn_57 (by decide) (fun c_57 => ?_) (fun c_57 => ?_)
      · refine lv_iconst (v := (1 : Int32)) hx hb dX3_personGoesOn_66 (by decide) ?_
        refine lv_goto (tgt := 71) hx hb dX3_personGoesOn_67 (by decide) ?_
        have hF : f_X3_personGoesOn x0 x1 = (1 : Int32) := by rw [f_X3_personGoesOn, if_neg c_1_0, if_pos c_1_1, if_neg c_51, if_pos c_57]
        rw [hF]
        exact kr_z B hP hS rfl rfl (Or.inr rfl) dX3_personGoesOn_71
      · refine lv_iload_n hx hb dX3_personGoesOn_60 rfl (lv_at hl 1 rfl) ?_
        refine lv_bipush (v := (99 : Int32)) hx hb dX3_personGoesOn_61 (by decide) ?_
        refine lv_icmp_ne (tgt := 70) hx hb dX3_personGoesOn_63 (by decide) (fun c_63 => ?_) (fun c_63 => ?_)
        · refine lv_iconst (v := (0 : Int32)) hx hb dX3_personGoesOn_70 (by decide) ?_
          have hF : f_X3_personGoesOn x0 x1 = (0 : Int32) := by rw [f_X3_personGoesOn, if_neg c_1_0, if_pos c_1_1, if_neg c_51, if_neg c_57, if_neg c_63]
          rw [hF]
          exact kr_z B hP hS rfl rfl (Or.inl rfl) dX3_personGoesOn_71
        · refine lv_iconst (v := (1 : Int32)) hx hb dX3_personGoesOn_66 (by decide) ?_
          refine lv_goto (tgt := 71) hx hb dX3_personGoesOn_67 (by decide) ?_
          have hF : f_X3_personGoesOn x0 x1 = (1 : Int32) := by rw [f_X3_personGoesOn, if_neg c_1_0, if_pos c_1_1, if_neg c_51, if_neg c_57, if_pos c_63]
          rw [hF]
          exact kr_z B hP hS rfl rfl (Or.inr rfl) dX3_personGoesOn_71
  by_cases c_1_2 : x0 = (2 : Int32)
  · refine lv_tableIn (off := 71) (tgt := 72) hx hb dX3_personGoesOn_1 (by rw [c_1_2]; decide) (by rw [c_1_2]; decide) (by rw [c_1_2]; rfl) (by decide) ?_
    refine lv_iload_n hx hb dX3_personGoesOn_72 rfl (lv_at hl 1 rfl) ?_
    refine lv_bipush (v := (48 : Int32)) hx hb dX3_personGoesOn_73 (by decide) ?_
    refine lv_bipush (v := (51 : Int32)) hx hb dX3_personGoesOn_75 (by decide) ?_
    refine kc_S (As := [.int x1, .int (48 : Int32), .int (51 : Int32)]) (rest := []) B (c_X3_isBetween l D cI cO tF x1 (48 : Int32) (51 : Int32) ) (va_cwS 3 hts gX3_personGoesOn_X3_isBetween rfl rfl rfl (by decide +kernel) ⟨Nat.le_of_ble_eq_true rfl, Nat.le_of_ble_eq_true rfl⟩) hP hD hS [] rfl (by decide) (w' := []) rfl rfl rfl hl.1 rfl (Nat.le_of_ble_eq_true rfl) dX3_personGoesOn_77 ⟨Nat.zero_le _, Nat.zero_le _⟩ (fun H locs hP hD hS => ?_)
    have hD : va_D A ([]) := hD
    have hF : f_X3_personGoesOn x0 x1 = (f_X3_isBetween x1 (48 : Int32) (51 : Int32)) := by rw [f_X3_personGoesOn, if_neg c_1_0, if_neg c_1_1, if_pos c_1_2]
    rw [hF]
    exact kr_z B hP hS rfl rfl (bb_X3_isBetween _ _ _) dX3_personGoesOn_80
  by_cases c_1_3 : x0 = (3 : Int32)
  · refine lv_tableIn (off := 80) (tgt := 81) hx hb dX3_personGoesOn_1 (by rw [c_1_3]; decide) (by rw [c_1_3]; decide) (by rw [c_1_3]; rfl) (by decide) ?_
    refine lv_iload_n hx hb dX3_personGoesOn_81 rfl (lv_at hl 1 rfl) ?_
    refine lv_bipush (v := (48 : Int32)) hx hb dX3_personGoesOn_82 (by decide) ?_
    refine lv_bipush (v := (57 : Int32)) hx hb dX3_personGoesOn_84 (by decide) ?_
    refine kc_S (As := [.int x1, .int (48 : Int32), .int (57 : Int32)]) (rest := []) B (c_X3_isBetween l D cI cO tF x1 (48 : Int32) (57 : Int32) ) (va_cwS 3 hts gX3_personGoesOn_X3_isBetween rfl rfl rfl (by decide +kernel) ⟨Nat.le_of_ble_eq_true rfl, Nat.le_of_ble_eq_true rfl⟩) hP hD hS [] rfl (by decide) (w' := []) rfl rfl rfl hl.1 rfl (Nat.le_of_ble_eq_true rfl) dX3_personGoesOn_86 ⟨Nat.zero_le _, Nat.zero_le _⟩ (fun H locs hP hD hS => ?_)
    have hD : va_D A ([]) := hD
    have hF : f_X3_personGoesOn x0 x1 = (f_X3_isBetween x1 (48 : Int32) (57 : Int32)) := by rw [f_X3_personGoesOn, if_neg c_1_0, if_neg c_1_1, if_neg c_1_2, if_pos c_1_3]
    rw [hF]
    exact kr_z B hP hS rfl rfl (bb_X3_isBetween _ _ _) dX3_personGoesOn_89
  by_cases c_1_4 : x0 = (4 : Int32)
  · refine lv_tableIn (off := 89) (tgt := 90) hx hb dX3_personGoesOn_1 (by rw [c_1_4]; decide) (by rw [c_1_4]; decide) (by rw [c_1_4]; rfl) (by decide) ?_
    refine lv_iload_n hx hb dX3_personGoesOn_90 rfl (lv_at hl 1 rfl) ?_
    refine lv_bipush (v := (49 : Int32)) hx hb dX3_personGoesOn_91 (by decide) ?_
    refine lv_bipush (v := (57 : Int32)) hx hb dX3_personGoesOn_93 (by decide) ?_
    refine kc_S (As := [.int x1, .int (49 : Int32), .int (57 : Int32)]) (rest := []) B (c_X3_isBetween l D cI cO tF x1 (49 : Int32) (57 : Int32) ) (va_cwS 3 hts gX3_personGoesOn_X3_isBetween rfl rfl rfl (by decide +kernel) ⟨Nat.le_of_ble_eq_true rfl, Nat.le_of_ble_eq_true rfl⟩) hP hD hS [] rfl (by decide) (w' := []) rfl rfl rfl hl.1 rfl (Nat.le_of_ble_eq_true rfl) dX3_personGoesOn_95 ⟨Nat.zero_le _, Nat.zero_le _⟩ (fun H locs hP hD hS => ?_)
    have hD : va_D A ([]) := hD
    have hF : f_X3_personGoesOn x0 x1 = (f_X3_isBetween x1 (49 : Int32) (57 : Int32)) := by rw [f_X3_personGoesOn, if_neg c_1_0, if_neg c_1_1, if_neg c_1_2, if_neg c_1_3, if_pos c_1_4]
    rw [hF]
    exact kr_z B hP hS rfl rfl (bb_X3_isBetween _ _ _) dX3_personGoesOn_98
  refine lv_tableOut (tgt := 99) hx hb dX3_personGoesOn_1 (sw_out5 c_1_0 c_1_1 c_1_2 c_1_3 c_1_4) (by decide) ?_
  refine lv_iload_n hx hb dX3_personGoesOn_99 rfl (lv_at hl 1 rfl) ?_
  refine lv_bipush (v := (48 : Int32)) hx hb dX3_personGoesOn_100 (by decide) ?_
  refine lv_bipush (v := (49 : Int32)) hx hb dX3_personGoesOn_102 (by decide) ?_
  refine kc_S (As := [.int x1, .int (48 : Int32), .int (49 : Int32)]) (rest := []) B (c_X3_isBetween l D cI cO tF x1 (48 : Int32) (49 : Int32) ) (va_cwS 3 hts gX3_personGoesOn_X3_isBetween rfl rfl rfl (by decide +kernel) ⟨Nat.le_of_ble_eq_true rfl, Nat.le_of_ble_eq_true rfl⟩) hP hD hS [] rfl (by decide) (w' := []) rfl rfl rfl hl.1 rfl (Nat.le_of_ble_eq_true rfl) dX3_personGoesOn_104 ⟨Nat.zero_le _, Nat.zero_le _⟩ (fun H locs hP hD hS => ?_)
  have hD : va_D A ([]) := hD
  have hF : f_X3_personGoesOn x0 x1 = (f_X3_isBetween x1 (48 : Int32) (49 : Int32)) := by rw [f_X3_personGoesOn, if_neg c_1_0, if_neg c_1_1, if_neg c_1_2, if_neg c_1_3, if_neg c_1_4]
  rw [hF]
  exact kr_z B hP hS rfl rfl (bb_X3_isBetween _ _ _) dX3_personGoesOn_107
def f_X3_goesOn (x0 : Int32) (x1 : Int32) : Int32 := (if x0 = (0 : Int32) then (if x1 = (116 : Int32) then (1 : Int32) else (0 : Int32)) else (if x0 = (1 : Int32) then (f_X3_isBetween x1 (48 : Int32) (52 : Int32)) else (if x0 = (2 : Int32) then (f_X3_isBetween x1 (48 : Int32) (57 : Int32)) else (if (39 : Int32) ≤ x0 then (0 : Int32) else (if (f_X3_personGoesOn ((x0 - (3 : Int32)) - (x0 - (3 : Int32)) / (6 : Int32) * (6 : Int32)) x1) = 0 then (0 : Int32) else (1 : Int32))))))
theorem bb_X3_goesOn (x0 : Int32) (x1 : Int32) : f_X3_goesOn x0 x1 = 0 ∨ f_X3_goesOn x0 x1 = 1 := by
  unfold f_X3_goesOn
  repeat' split
  all_goals first | exact Or.inl rfl | exact Or.inr rfl | exact bb_X3_isBetween _ _ _ | exact bb_X3_personGoesOn _ _
set_option maxHeartbeats 4000000 in
set_option maxRecDepth 100000 in
theorem c_X3_goesOn (l : Launch) (D : va_G) (cI cO : ClassId) (tF : Nat) (x0 : Int32) (x1 : Int32) : Ct l yX3_goesOn wsX3_goesOn ({ frames := 2, cells := 0, slots := 0, locals := 43 }) D cI cO tF [.int x0, .int x1] ([]) (some (.int (f_X3_goesOn x0 x1))) ([]) := by
  refine Ct.of (cc := cX3_goesOn) (maxL := 2) (ret := (some .boolean)) (own := RX3) (by decide) rfl rfl (Nat.le_of_ble_eq_true rfl) ?_
  intro p e s m args below meth c A ls B hP hD hS hl
  obtain ⟨hx, hb, hret, hml, hts, hown, hlocks, hE, hA⟩ := id B
  have hK := hE.1
  have hl : lv_has ls 2 [(0, .int x0), (1, .int x1)] := hl
  refine lv_iload_n hx hb dX3_goesOn_0 rfl (lv_at hl 0 rfl) ?_
  by_cases c_1_0 : x0 = (0 : Int32)
  · refine lv_tableIn (off := 27) (tgt := 28) hx hb dX3_goesOn_1 (by rw [c_1_0]; decide) (by rw [c_1_0]; decide) (by rw [c_1_0]; rfl) (by decide) ?_
    refine lv_iload_n hx hb dX3_goesOn_28 rfl (lv_at hl 1 rfl) ?_
    refine lv_bipush (v := (116 : Int32)) hx hb dX3_goesOn_29 (by decide) ?_
    refine lv_icmp_ne (tgt := 38) hx hb dX3_goesOn_31 (by decide) (fun c_31 => ?_) (fun c_31 => ?_)
    · refine lv_iconst (v := (0 : Int32)) hx hb dX3_goesOn_38 (by decide) ?_
      have hF : f_X3_goesOn x0 x1 = (0 : Int32) := by rw [f_X3_goesOn, if_pos c_1_0, if_neg c_31]
      rw [hF]
      exact kr_z B hP hS rfl rfl (Or.inl rfl) dX3_goesOn_39
    · refine lv_iconst (v := (1 : Int32)) hx hb dX3_goesOn_34 (by decide) ?_
      refine lv_goto (tgt := 39) hx hb dX3_goesOn_35 (by decide) ?_
      have hF : f_X3_goesOn x0 x1 = (1 : Int32) := by rw [f_X3_goesOn, if_pos c_1_0, if_pos c_31]
      rw [hF]
      exact kr_z B hP hS rfl rfl (Or.inr rfl) dX3_goesOn_39
  by_cases c_1_1 : x0 = (1 : Int32)
  · refine lv_tableIn (off := 39) (tgt := 40) hx hb dX3_goesOn_1 (by rw [c_1_1]; decide) (by rw [c_1_1]; decide) (by rw [c_1_1]; rfl) (by decide) ?_
    refine lv_iload_n hx hb dX3_goesOn_40 rfl (lv_at hl 1 rfl) ?_
    refine lv_bipush (v := (48 : Int32)) hx hb dX3_goesOn_41 (by decide) ?_
    refine lv_bipush (v := (52 : Int32)) hx hb dX3_goesOn_43 (by decide) ?_
    refine kc_S (As := [.int x1, .int (48 : Int32), .int (52 : Int32)]) (rest := []) B (c_X3_isBetween l D cI cO tF x1 (48 : Int32) (52 : Int32) ) (va_cwS 3 hts gX3_goesOn_X3_isBetween rfl rfl rfl (by decide +kernel) ⟨Nat.le_of_ble_eq_true rfl, Nat.le_of_ble_eq_true rfl⟩) hP hD hS [] rfl (by decide) (w' := []) rfl rfl rfl hl.1 rfl (Nat.le_of_ble_eq_true rfl) dX3_goesOn_45 ⟨Nat.zero_le _, Nat.zero_le _⟩ (fun H locs hP hD hS => ?_)
    have hD : va_D A ([]) := hD
    have hF : f_X3_goesOn x0 x1 = (f_X3_isBetween x1 (48 : Int32) (52 : Int32)) := by rw [f_X3_goesOn, if_neg c_1_0, if_pos c_1_1]
    rw [hF]
    exact kr_z B hP hS rfl rfl (bb_X3_isBetween _ _ _) dX3_goesOn_48
  by_cases c_1_2 : x0 = (2 : Int32)
  · refine lv_tableIn (off := 48) (tgt := 49) hx hb dX3_goesOn_1 (by rw [c_1_2]; decide) (by rw [c_1_2]; decide) (by rw [c_1_2]; rfl) (by decide) ?_
    refine lv_iload_n hx hb dX3_goesOn_49 rfl (lv_at hl 1 rfl) ?_
    refine lv_bipush (v := (48 : Int32)) hx hb dX3_goesOn_50 (by decide) ?_
    refine lv_bipush (v := (57 : Int32)) hx hb dX3_goesOn_52 (by decide) ?_
    refine kc_S (As := [.int x1, .int (48 : Int32), .int (57 : Int32)]) (rest := []) B (c_X3_isBetween l D cI cO tF x1 (48 : Int32) (57 : Int32) ) (va_cwS 3 hts gX3_goesOn_X3_isBetween rfl rfl rfl (by decide +kernel) ⟨Nat.le_of_ble_eq_true rfl, Nat.le_of_ble_eq_true rfl⟩) hP hD hS [] rfl (by decide) (w' := []) rfl rfl rfl hl.1 rfl (Nat.le_of_ble_eq_true rfl) dX3_goesOn_54 ⟨Nat.zero_le _, Nat.zero_le _⟩ (fun H locs hP hD hS => ?_)
    have hD : va_D A ([]) := hD
    have hF : f_X3_goesOn x0 x1 = (f_X3_isBetween x1 (48 : Int32) (57 : Int32)) := by rw [f_X3_goesOn, if_neg c_1_0, if_neg c_1_1, if_pos c_1_2]
    rw [hF]
    exact kr_z B hP hS rfl rfl (bb_X3_isBetween _ _ _) dX3_goesOn_57
  refine lv_tableOut (tgt := 58) hx hb dX3_goesOn_1 (sw_out3 c_1_0 c_1_1 c_1_2) (by decide) ?_
  refine lv_iload_n hx hb dX3_goesOn_58 rfl (lv_at hl 0 rfl) ?_
  refine lv_bipush (v := (39 : Int32)) hx hb dX3_goesOn_59 (by decide) ?_
  refine lv_icmp_ge (tgt := 81) hx hb dX3_goesOn_61 (by decide) (fun c_61 => ?_) (fun c_61 => ?_)
  · refine lv_iconst (v := (0 : Int32)) hx hb dX3_goesOn_81 (by decide) ?_
    have hF : f_X3_goesOn x0 x1 = (0 : Int32) := by rw [f_X3_goesOn, if_neg c_1_0, if_neg c_1_1, if_neg c_1_2, if_pos c_61]
    rw [hF]
    exact kr_z B hP hS rfl rfl (Or.inl rfl) dX3_goesOn_82
  · refine lv_iload_n hx hb dX3_goesOn_64 rfl (lv_at hl 0 rfl) ?_
    refine lv_iconst (v := (3 : Int32)) hx hb dX3_goesOn_65 (by decide) ?_
    refine lv_isub hx hb dX3_goesOn_66 ?_
    refine lv_bipush (v := (6 : Int32)) hx hb dX3_goesOn_67 (by decide) ?_
    refine lv_irem hx hb dX3_goesOn_69 (by decide) ?_
    refine lv_iload_n hx hb dX3_goesOn_70 rfl (lv_at hl 1 rfl) ?_
    refine kc_S (As := [.int ((x0 - (3 : Int32)) - (x0 - (3 : Int32)) / (6 : Int32) * (6 : Int32)), .int x1]) (rest := []) B (c_X3_personGoesOn l D cI cO tF ((x0 - (3 : Int32)) - (x0 - (3 : Int32)) / (6 : Int32) * (6 : Int32)) x1 ) (va_cwS 2 hts gX3_goesOn_X3_personGoesOn rfl rfl rfl (by decide +kernel) ⟨Nat.le_of_ble_eq_true rfl, Nat.le_of_ble_eq_true rfl⟩) hP hD hS [] rfl (by decide) (w' := []) rfl rfl rfl hl.1 rfl (Nat.le_of_ble_eq_true rfl) dX3_goesOn_71 ⟨Nat.zero_le _, Nat.zero_le _⟩ (fun H locs hP hD hS => ?_)
    have hD : va_D A ([]) := hD
    refine lv_if_eq (tgt := 81) hx hb dX3_goesOn_74 (by decide) (fun c_74 => ?_) (fun c_74 => ?_)
    · refine lv_iconst (v := (0 : Int32)) hx hb dX3_goesOn_81 (by decide) ?_
      have hF : f_X3_goesOn x0 x1 = (0 : Int32) := by rw [f_X3_goesOn, if_neg c_1_0, if_neg c_1_1, if_neg c_1_2, if_neg c_61, if_pos c_74]
      rw [hF]
      exact kr_z B hP hS rfl rfl (Or.inl rfl) dX3_goesOn_82
    · refine lv_iconst (v := (1 : Int32)) hx hb dX3_goesOn_77 (by decide) ?_
      refine lv_goto (tgt := 82) hx hb dX3_goesOn_78 (by decide) ?_
      have hF : f_X3_goesOn x0 x1 = (1 : Int32) := by rw [f_X3_goesOn, if_neg c_1_0, if_neg c_1_1, if_neg c_1_2, if_neg c_61, if_neg c_74]
      rw [hF]
      exact kr_z B hP hS rfl rfl (Or.inr rfl) dX3_goesOn_82
def f_X3_isAskedOfYear (x0 : Int32) : Int32 := (if x0 < 0 then (if x0 < (10 : Int32) then (0 : Int32) else (if (16 : Int32) ≤ x0 then (0 : Int32) else (1 : Int32))) else (if x0 ≤ (3 : Int32) then (1 : Int32) else (if x0 < (10 : Int32) then (0 : Int32) else (if (16 : Int32) ≤ x0 then (0 : Int32) else (1 : Int32)))))
theorem bb_X3_isAskedOfYear (x0 : Int32) : f_X3_isAskedOfYear x0 = 0 ∨ f_X3_isAskedOfYear x0 = 1 := by
  unfold f_X3_isAskedOfYear
  repeat' split
  all_goals first | exact Or.inl rfl | exact Or.inr rfl
set_option maxHeartbeats 4000000 in
set_option maxRecDepth 100000 in
theorem c_X3_isAskedOfYear (l : Launch) (D : va_G) (cI cO : ClassId) (tF : Nat) (x0 : Int32) : Ct l yX3_isAskedOfYear wsX3_isAskedOfYear ({ frames := 0, cells := 0, slots := 0, locals := 0 }) D cI cO tF [.int x0] ([]) (some (.int (f_X3_isAskedOfYear x0))) ([]) := by
  refine Ct.of (cc := cX3_isAskedOfYear) (maxL := 1) (ret := (some .boolean)) (own := RX3) (by decide) rfl rfl (Nat.le_of_ble_eq_true rfl) ?_
  intro p e s m args below meth c A ls B hP hD hS hl
  obtain ⟨hx, hb, hret, hml, hts, hown, hlocks, hE, hA⟩ := id B
  have hK := hE.1
  have hl : lv_has ls 1 [(0, .int x0)] := hl
  refine lv_iload_n hx hb dX3_isAskedOfYear_0 rfl (lv_at hl 0 rfl) ?_
  refine lv_if_lt (tgt := 9) hx hb dX3_isAskedOfYear_1 (by decide) (fun c_1 => ?_) (fun c_1 => ?_)
  · refine lv_iload_n hx hb dX3_isAskedOfYear_9 rfl (lv_at hl 0 rfl) ?_
    refine lv_bipush (v := (10 : Int32)) hx hb dX3_isAskedOfYear_10 (by decide) ?_
    refine lv_icmp_lt (tgt := 25) hx hb dX3_isAskedOfYear_12 (by decide) (fun c_12 => ?_) (fun c_12 => ?_)
    · refine lv_iconst (v := (0 : Int32)) hx hb dX3_isAskedOfYear_25 (by decide) ?_
      have hF : f_X3_isAskedOfYear x0 = (0 : Int32) := by rw [f_X3_isAskedOfYear, if_pos c_1, if_pos c_12]
      rw [hF]
      exact kr_z B hP hS rfl rfl (Or.inl rfl) dX3_isAskedOfYear_26
    · refine lv_iload_n hx hb dX3_isAskedOfYear_15 rfl (lv_at hl 0 rfl) ?_
      refine lv_bipush (v := (16 : Int32)) hx hb dX3_isAskedOfYear_16 (by decide) ?_
      refine lv_icmp_ge (tgt := 25) hx hb dX3_isAskedOfYear_18 (by decide) (fun c_18 => ?_) (fun c_18 => ?_)
      · refine lv_iconst (v := (0 : Int32)) hx hb dX3_isAskedOfYear_25 (by decide) ?_
        have hF : f_X3_isAskedOfYear x0 = (0 : Int32) := by rw [f_X3_isAskedOfYear, if_pos c_1, if_neg c_12, if_pos c_18]
        rw [hF]
        exact kr_z B hP hS rfl rfl (Or.inl rfl) dX3_isAskedOfYear_26
      · refine lv_iconst (v := (1 : Int32)) hx hb dX3_isAskedOfYear_21 (by decide) ?_
        refine lv_goto (tgt := 26) hx hb dX3_isAskedOfYear_22 (by decide) ?_
        have hF : f_X3_isAskedOfYear x0 = (1 : Int32) := by rw [f_X3_isAskedOfYear, if_pos c_1, if_neg c_12, if_neg c_18]
        rw [hF]
        exact kr_z B hP hS rfl rfl (Or.inr rfl) dX3_isAskedOfYear_26
  · refine lv_iload_n hx hb dX3_isAskedOfYear_4 rfl (lv_at hl 0 rfl) ?_
    refine lv_iconst (v := (3 : Int32)) hx hb dX3_isAskedOfYear_5 (by decide) ?_
    refine lv_icmp_le (tgt := 21) hx hb dX3_isAskedOfYear_6 (by decide) (fun c_6 => ?_) (fun c_6 => ?_)
    · refine lv_iconst (v := (1 : Int32)) hx hb dX3_isAskedOfYear_21 (by decide) ?_
      refine lv_goto (tgt := 26) hx hb dX3_isAskedOfYear_22 (by decide) ?_
      have hF : f_X3_isAskedOfYear x0 = (1 : Int32) := by rw [f_X3_isAskedOfYear, if_neg c_1, if_pos c_6]
      rw [hF]
      exact kr_z B hP hS rfl rfl (Or.inr rfl) dX3_isAskedOfYear_26
    · refine lv_iload_n hx hb dX3_isAskedOfYear_9 rfl (lv_at hl 0 rfl) ?_
      refine lv_bipush (v := (10 : Int32)) hx hb dX3_isAskedOfYear_10 (by decide) ?_
      refine lv_icmp_lt (tgt := 25) hx hb dX3_isAskedOfYear_12 (by decide) (fun c_12 => ?_) (fun c_12 => ?_)
      · refine lv_iconst (v := (0 : Int32)) hx hb dX3_isAskedOfYear_25 (by decide) ?_
        have hF : f_X3_isAskedOfYear x0 = (0 : Int32) := by rw [f_X3_isAskedOfYear, if_neg c_1, if_neg c_6, if_pos c_12]
        rw [hF]
        exact kr_z B hP hS rfl rfl (Or.inl rfl) dX3_isAskedOfYear_26
      · refine lv_iload_n hx hb dX3_isAskedOfYear_15 rfl (lv_at hl 0 rfl) ?_
        refine lv_bipush (v := (16 : Int32)) hx hb dX3_isAskedOfYear_16 (by decide) ?_
        refine lv_icmp_ge (tgt := 25) hx hb dX3_isAskedOfYear_18 (by decide) (fun c_18 => ?_) (fun c_18 => ?_)
        · refine lv_iconst (v := (0 : Int32)) hx hb dX3_isAskedOfYear_25 (by decide) ?_
          have hF : f_X3_isAskedOfYear x0 = (0 : Int32) := by rw [f_X3_isAskedOfYear, if_neg c_1, if_neg c_6, if_neg c_12, if_pos c_18]
          rw [hF]
          exact kr_z B hP hS rfl rfl (Or.inl rfl) dX3_isAskedOfYear_26
        · refine lv_iconst (v := (1 : Int32)) hx hb dX3_isAskedOfYear_21 (by decide) ?_
          refine lv_goto (tgt := 26) hx hb dX3_isAskedOfYear_22 (by decide) ?_
          have hF : f_X3_isAskedOfYear x0 = (1 : Int32) := by rw [f_X3_isAskedOfYear, if_neg c_1, if_neg c_6, if_neg c_12, if_neg c_18]
          rw [hF]
          exact kr_z B hP hS rfl rfl (Or.inr rfl) dX3_isAskedOfYear_26
def f_X3_ordersOf (x0 : Int32) : Int32 := (if (7 : Int32) ≤ (f_J6_bitCount_0f7a4 x0) then (0 : Int32) else (fF (f_J6_bitCount_0f7a4 x0).toNatClampNeg))
set_option maxHeartbeats 4000000 in
set_option maxRecDepth 100000 in
theorem c_X3_ordersOf (l : Launch) (D : va_G) (cI cO : ClassId) (tF : Nat) (x0 : Int32) : Ct l yX3_ordersOf wsX3_ordersOf ({ frames := 1, cells := 0, slots := 0, locals := 20 }) D cI cO tF [.int x0] ([]) (some (.int (f_X3_ordersOf x0))) ([]) := by
  refine Ct.of (cc := cX3_ordersOf) (maxL := 2) (ret := (some .int)) (own := RX3) (by decide) rfl rfl (Nat.le_of_ble_eq_true rfl) ?_
  intro p e s m args below meth c A ls B hP hD hS hl
  obtain ⟨hx, hb, hret, hml, hts, hown, hlocks, hE, hA⟩ := id B
  have hK := hE.1
  have hl : lv_has ls 2 [(0, .int x0)] := hl
  refine lv_iload_n hx hb dX3_ordersOf_0 rfl (lv_at hl 0 rfl) ?_
  refine kc_S (As := [.int x0]) (rest := []) B (c_J6_bitCount_0f7a4 l D cI cO tF x0 ) (va_cwS 1 hts gX3_ordersOf_J6_bitCount_0f7a4 rfl rfl rfl (by decide +kernel) ⟨Nat.le_of_ble_eq_true rfl, Nat.le_of_ble_eq_true rfl⟩) hP hD hS [] rfl (by decide) (w' := []) rfl rfl rfl hl.1 rfl (Nat.le_of_ble_eq_true rfl) dX3_ordersOf_1 ⟨Nat.zero_le _, Nat.zero_le _⟩ (fun H locs hP hD hS => ?_)
  have hD : va_D A ([]) := hD
  refine lv_istore_n (lv' := [(1, .int (f_J6_bitCount_0f7a4 x0)), (0, .int x0)]) hx hb dX3_ordersOf_4 rfl hl (by decide) rfl (fun ls hl => ?_)
  refine lv_iload_n hx hb dX3_ordersOf_5 rfl (lv_at hl 0 rfl) ?_
  refine va_gets (C := "TownLisp") hx hb hE.2.2.1 hS hown (hts (.fieldLink RX3 239 "TownLisp" "FACTORIALS" "[I") (by decide +kernel)) (fun _ h9 => h9) dX3_ordersOf_6 ?_
  refine va_tlen (v := 7) hx hb hE.2.2.2 hS rfl dX3_ordersOf_9 ?_
  refine lv_icmp_ge (tgt := 21) hx hb dX3_ordersOf_10 (by decide) (fun c_10 => ?_) (fun c_10 => ?_)
  · refine lv_iconst (v := (0 : Int32)) hx hb dX3_ordersOf_21 (by decide) ?_
    have hF : f_X3_ordersOf x0 = (0 : Int32) := by rw [f_X3_ordersOf, if_pos c_10]
    rw [hF]
    exact kr_i B hP hS rfl rfl dX3_ordersOf_22
  · refine va_gets (C := "TownLisp") hx hb hE.2.2.1 hS hown (hts (.fieldLink RX3 239 "TownLisp" "FACTORIALS" "[I") (by decide +kernel)) (fun _ h9 => h9) dX3_ordersOf_13 ?_
    refine lv_iload_n hx hb dX3_ordersOf_16 rfl (lv_at hl 0 rfl) ?_
    refine va_ti (v := .int (fF (f_J6_bitCount_0f7a4 x0).toNatClampNeg)) hx hb hE.2.2.2 hS (lp_in (n := 7) (bc_nn x0) (by decide) c_10) rfl dX3_ordersOf_17 ?_
    refine lv_goto (tgt := 22) hx hb dX3_ordersOf_18 (by decide) ?_
    have hF : f_X3_ordersOf x0 = (fF (f_J6_bitCount_0f7a4 x0).toNatClampNeg) := by rw [f_X3_ordersOf, if_neg c_10]
    rw [hF]
    exact kr_i B hP hS rfl rfl dX3_ordersOf_22
def fL_X3_shareOf_8 (x0 : Int32) (x1 : Int32) (x2 : Int32) : Nat → Int32 → Int32 → Int32 → Int64
  | 0, _, _, _ => 0
  | k + 1, x3, x4, x5 => (if (64 : Int32) ≤ x5 then (if (1 : Int32) ≤ x3 then (if x2 = 0 then (x0 / x3).toInt64 else (x1 / x3).toInt64) else (-9223372036854775808 : Int64)) else (if x4 = 0 then (if (1 : Int32) ≤ x3 then (if x2 = 0 then (x0 / x3).toInt64 else (x1 / x3).toInt64) else (-9223372036854775808 : Int64)) else fL_X3_shareOf_8 x0 x1 x2 k x4 (x3 - x3 / x4 * x4) (x5 + (1 : Int32))))
def f_X3_shareOf (x0 : Int32) (x1 : Int32) (x2 : Int32) : Int64 := fL_X3_shareOf_8 x0 x1 x2 65 x1 x0 (0 : Int32)
set_option maxHeartbeats 4000000 in
set_option maxRecDepth 100000 in
theorem L_X3_shareOf_8 {p : Program} (l : Launch) {e : Env} {s : State} {m : MethodId} {args : Array Value} {below : List Frame} {meth : Method} {c : Code} {A : Nat → Prop} (D : va_G) (cI cO : ClassId) (tF : Nat) (x0 : Int32) (x1 : Int32) (x2 : Int32) (B : Bx p s m args meth c cX3_shareOf 7 (some .long) wsX3_shareOf RX3 D cI cO tF A) : ∀ (k : Nat) (x3 : Int32) (x4 : Int32) (x5 : Int32), (0 ≤ x5.toInt) → (((64 : Int32).toInt - x5.toInt).toNat < k) → ∀ (H : Heap) (locs : List Loc), va_P D vwCl ([]) H → va_D A ([]) → va_S A s.heap H locs → ∀ ls : Array Slot, lv_has ls 7 [(0, .int x0), (1, .int x1), (2, .int x2), (3, .int x3), (4, .int x4), (5, .int x5)] → W p l e ({ frames := 0, cells := 0, slots := 0, locals := 0 }) s m args below meth c H locs 0 0 (MQ below (Qp D (some (.long (fL_X3_shareOf_8 x0 x1 x2 k x3 x4 x5))) ([]) A) args s 0 0 A) (F0 m 8 ls []) := by
  obtain ⟨hx, hb, hret, hml, hts, hown, hlocks, hE, hA⟩ := id B
  have hK := hE.1
  intro k
  induction k with
  | zero =>
    intro x3 x4 x5 h0 hk
    exact absurd hk (Nat.not_lt_zero _)
  | succ k ih =>
    intro x3 x4 x5 h0 hk H locs hP hD hS ls hl
    refine lv_iload hx hb dX3_shareOf_8 (lv_at hl 5 rfl) ?_
    refine lv_bipush (v := (64 : Int32)) hx hb dX3_shareOf_10 (by decide) ?_
    refine lv_icmp_ge (tgt := 39) hx hb dX3_shareOf_12 (by decide) (fun c_12 => ?_) (fun c_12 => ?_)
    · refine lv_iload_n hx hb dX3_shareOf_39 rfl (lv_at hl 3 rfl) ?_
      refine lv_iconst (v := (1 : Int32)) hx hb dX3_shareOf_40 (by decide) ?_
      refine lv_icmp_ge (tgt := 48) hx hb dX3_shareOf_41 (by decide) (fun c_41 => ?_) (fun c_41 => ?_)
      · refine lv_iload_n hx hb dX3_shareOf_48 rfl (lv_at hl 2 rfl) ?_
        refine lv_if_ne (tgt := 56) hx hb dX3_shareOf_49 (by decide) (fun c_49 => ?_) (fun c_49 => ?_)
        · refine lv_iload_n hx hb dX3_shareOf_56 rfl (lv_at hl 1 rfl) ?_
          refine lv_iload_n hx hb dX3_shareOf_57 rfl (lv_at hl 3 rfl) ?_
          refine lv_idiv hx hb dX3_shareOf_58 (nz_1le c_41) ?_
          refine lv_i2l (v := (x1 / x3).toInt64) hx hb dX3_shareOf_59 rfl ?_
          have hF : fL_X3_shareOf_8 x0 x1 x2 (k + 1) x3 x4 x5 = (x1 / x3).toInt64 := by rw [fL_X3_shareOf_8, if_pos c_12, if_pos c_41, if_neg c_49]
          rw [hF]
          exact kr_l B hP hS rfl rfl dX3_shareOf_60
        · refine lv_iload_n hx hb dX3_shareOf_52 rfl (lv_at hl 0 rfl) ?_
          refine lv_goto (tgt := 57) hx hb dX3_shareOf_53 (by decide) ?_
          refine lv_iload_n hx hb dX3_shareOf_57 rfl (lv_at hl 3 rfl) ?_
          refine lv_idiv hx hb dX3_shareOf_58 (nz_1le c_41) ?_
          refine lv_i2l (v := (x0 / x3).toInt64) hx hb dX3_shareOf_59 rfl ?_
          have hF : fL_X3_shareOf_8 x0 x1 x2 (k + 1) x3 x4 x5 = (x0 / x3).toInt64 := by rw [fL_X3_shareOf_8, if_pos c_12, if_pos c_41, if_pos c_49]
          rw [hF]
          exact kr_l B hP hS rfl rfl dX3_shareOf_60
      · refine lv_ldc2 hx hb hown (hts (.constantLong RX3 140 (-9223372036854775808 : Int64)) (by decide +kernel)) dX3_shareOf_44 ?_
        have hF : fL_X3_shareOf_8 x0 x1 x2 (k + 1) x3 x4 x5 = (-9223372036854775808 : Int64) := by rw [fL_X3_shareOf_8, if_pos c_12, if_neg c_41]
        rw [hF]
        exact kr_l B hP hS rfl rfl dX3_shareOf_47
    · refine lv_iload hx hb dX3_shareOf_15 (lv_at hl 4 rfl) ?_
      refine lv_if_eq (tgt := 39) hx hb dX3_shareOf_17 (by decide) (fun c_17 => ?_) (fun c_17 => ?_)
      · refine lv_iload_n hx hb dX3_shareOf_39 rfl (lv_at hl 3 rfl) ?_
        refine lv_iconst (v := (1 : Int32)) hx hb dX3_shareOf_40 (by decide) ?_
        refine lv_icmp_ge (tgt := 48) hx hb dX3_shareOf_41 (by decide) (fun c_41 => ?_) (fun c_41 => ?_)
        · refine lv_iload_n hx hb dX3_shareOf_48 rfl (lv_at hl 2 rfl) ?_
          refine lv_if_ne (tgt := 56) hx hb dX3_shareOf_49 (by decide) (fun c_49 => ?_) (fun c_49 => ?_)
          · refine lv_iload_n hx hb dX3_shareOf_56 rfl (lv_at hl 1 rfl) ?_
            refine lv_iload_n hx hb dX3_shareOf_57 rfl (lv_at hl 3 rfl) ?_
            refine lv_idiv hx hb dX3_shareOf_58 (nz_1le c_41) ?_
            refine lv_i2l (v := (x1 / x3).toInt64) hx hb dX3_shareOf_59 rfl ?_
            have hF : fL_X3_shareOf_8 x0 x1 x2 (k + 1) x3 x4 x5 = (x1 / x3).toInt64 := by rw [fL_X3_shareOf_8, if_neg c_12, if_pos c_17, if_pos c_41, if_neg c_49]
            rw [hF]
            exact kr_l B hP hS rfl rfl dX3_shareOf_60
          · refine lv_iload_n hx hb dX3_shareOf_52 rfl (lv_at hl 0 rfl) ?_
            refine lv_goto (tgt := 57) hx hb dX3_shareOf_53 (by decide) ?_
            refine lv_iload_n hx hb dX3_shareOf_57 rfl (lv_at hl 3 rfl) ?_
            refine lv_idiv hx hb dX3_shareOf_58 (nz_1le c_41) ?_
            refine lv_i2l (v := (x0 / x3).toInt64) hx hb dX3_shareOf_59 rfl ?_
            have hF : fL_X3_shareOf_8 x0 x1 x2 (k + 1) x3 x4 x5 = (x0 / x3).toInt64 := by rw [fL_X3_shareOf_8, if_neg c_12, if_pos c_17, if_pos c_41, if_pos c_49]
            rw [hF]
            exact kr_l B hP hS rfl rfl dX3_shareOf_60
        · refine lv_ldc2 hx hb hown (hts (.constantLong RX3 140 (-9223372036854775808 : Int64)) (by decide +kernel)) dX3_shareOf_44 ?_
          have hF : fL_X3_shareOf_8 x0 x1 x2 (k + 1) x3 x4 x5 = (-9223372036854775808 : Int64) := by rw [fL_X3_shareOf_8, if_neg c_12, if_pos c_17, if_neg c_41]
          rw [hF]
          exact kr_l B hP hS rfl rfl dX3_shareOf_47
      · refine lv_iload_n hx hb dX3_shareOf_20 rfl (lv_at hl 3 rfl) ?_
        refine lv_iload hx hb dX3_shareOf_21 (lv_at hl 4 rfl) ?_
        refine lv_irem hx hb dX3_shareOf_23 (c_17) ?_
        refine lv_istore (lv' := [(6, .int (x3 - x3 / x4 * x4)), (0, .int x0), (1, .int x1), (2, .int x2), (3, .int x3), (4, .int x4), (5, .int x5)]) hx hb dX3_shareOf_24 hl (by decide) rfl (fun ls hl => ?_)
        refine lv_iload hx hb dX3_shareOf_26 (lv_at hl 5 rfl) ?_
        refine lv_istore_n (lv' := [(3, .int x4), (6, .int (x3 - x3 / x4 * x4)), (0, .int x0), (1, .int x1), (2, .int x2), (4, .int x4), (5, .int x5)]) hx hb dX3_shareOf_28 rfl hl (by decide) rfl (fun ls hl => ?_)
        refine lv_iload hx hb dX3_shareOf_29 (lv_at hl 1 rfl) ?_
        refine lv_istore (lv' := [(4, .int (x3 - x3 / x4 * x4)), (3, .int x4), (6, .int (x3 - x3 / x4 * x4)), (0, .int x0), (1, .int x1), (2, .int x2), (5, .int x5)]) hx hb dX3_shareOf_31 hl (by decide) rfl (fun ls hl => ?_)
        refine lv_iinc (v := (x5 + (1 : Int32))) (lv' := [(5, .int (x5 + (1 : Int32))), (4, .int (x3 - x3 / x4 * x4)), (3, .int x4), (6, .int (x3 - x3 / x4 * x4)), (0, .int x0), (1, .int x1), (2, .int x2)]) hx hb dX3_shareOf_33 hl (k := 6) rfl rfl (by decide) rfl (fun ls hl => ?_)
        refine lv_goto (tgt := 8) hx hb dX3_shareOf_36 (by decide) ?_
        have hF : fL_X3_shareOf_8 x0 x1 x2 (k + 1) x3 x4 x5 = fL_X3_shareOf_8 x0 x1 x2 k x4 (x3 - x3 / x4 * x4) (x5 + (1 : Int32)) := by rw [fL_X3_shareOf_8, if_neg c_12, if_neg c_17]
        rw [hF]
        exact ih x4 (x3 - x3 / x4 * x4) (x5 + (1 : Int32)) (lp_pre h0 c_12) (lp_mu h0 c_12 hk) _ _ hP hD hS ls (lv_sub hl [4, 5, 6, 2, 1, 0] rfl)
set_option maxHeartbeats 4000000 in
set_option maxRecDepth 100000 in
theorem c_X3_shareOf (l : Launch) (D : va_G) (cI cO : ClassId) (tF : Nat) (x0 : Int32) (x1 : Int32) (x2 : Int32) : Ct l yX3_shareOf wsX3_shareOf ({ frames := 0, cells := 0, slots := 0, locals := 0 }) D cI cO tF [.int x0, .int x1, .int x2] ([]) (some (.long (f_X3_shareOf x0 x1 x2))) ([]) := by
  refine Ct.of (cc := cX3_shareOf) (maxL := 7) (ret := (some .long)) (own := RX3) (by decide) rfl rfl (Nat.le_of_ble_eq_true rfl) ?_
  intro p e s m args below meth c A ls B hP hD hS hl
  obtain ⟨hx, hb, hret, hml, hts, hown, hlocks, hE, hA⟩ := id B
  have hK := hE.1
  have hl : lv_has ls 7 [(0, .int x0), (1, .int x1), (2, .int x2)] := hl
  refine lv_iload_n hx hb dX3_shareOf_0 rfl (lv_at hl 1 rfl) ?_
  refine lv_istore_n (lv' := [(3, .int x1), (0, .int x0), (1, .int x1), (2, .int x2)]) hx hb dX3_shareOf_1 rfl hl (by decide) rfl (fun ls hl => ?_)
  refine lv_iload_n hx hb dX3_shareOf_2 rfl (lv_at hl 1 rfl) ?_
  refine lv_istore (lv' := [(4, .int x0), (3, .int x1), (0, .int x0), (1, .int x1), (2, .int x2)]) hx hb dX3_shareOf_3 hl (by decide) rfl (fun ls hl => ?_)
  refine lv_iconst (v := (0 : Int32)) hx hb dX3_shareOf_5 (by decide) ?_
  refine lv_istore (lv' := [(5, .int (0 : Int32)), (4, .int x0), (3, .int x1), (0, .int x0), (1, .int x1), (2, .int x2)]) hx hb dX3_shareOf_6 hl (by decide) rfl (fun ls hl => ?_)
  have hF : f_X3_shareOf x0 x1 x2 = fL_X3_shareOf_8 x0 x1 x2 65 x1 x0 (0 : Int32) := by rw [f_X3_shareOf]
  rw [hF]
  exact L_X3_shareOf_8 l D cI cO tF x0 x1 x2  B  65 x1 x0 (0 : Int32) (Int.le_refl _) (by decide) _ _ hP hD hS ls (lv_sub hl [3, 4, 5, 2, 1, 0] rfl)
def f_X3_ofPerson (X : XS) (x1 : Int32) (x2 : Int32) : Int32 := (if (f_X2_has (X_now X) x1) = 0 then (-1 : Int32) else (if x2 = (0 : Int32) then ((T_kind (X_now X)) x1.toNatClampNeg) else (if x2 = (1 : Int32) then ((T_parts (X_now X)) x1.toNatClampNeg) else (if x2 = (2 : Int32) then ((T_thick (X_now X)) x1.toNatClampNeg) else (if x2 = (3 : Int32) then (if (f_X2_isIn (X_now X) x1) = 0 then (0 : Int32) else (1 : Int32)) else (if x2 = (4 : Int32) then (f_X2_saysNow (X_now X) x1) else (-2 : Int32)))))))
theorem iw_X3_ofPerson_2 : ∀ w ∈ wsX20, w ∈ wsX3_ofPerson := fun _ h => List.mem_cons_of_mem _ (List.mem_append_right _ h)
theorem iw_X3_ofPerson_3 : ∀ w ∈ wsX30, w ∈ wsX3_ofPerson := fun _ h => List.mem_cons_of_mem _ (List.mem_append_left _ (List.mem_append_right _ h))
set_option maxHeartbeats 4000000 in
set_option maxRecDepth 100000 in
theorem c_X3_ofPerson (l : Launch) (D : va_G) (cI cO : ClassId) (tF : Nat) (ad : Nat → Nat) (X : XS) (x1 : Int32) (x2 : Int32) (hn : (T_count (X_now X)).toInt ≤ 6) : Ct l yX3_ofPerson wsX3_ofPerson ({ frames := 3, cells := 0, slots := 0, locals := 68 }) D cI cO tF [.ref (ad 0), .int x1, .int x2] (wX ad cI cO X) (some (.int (f_X3_ofPerson X x1 x2))) (wX ad cI cO X) := by
  refine Ct.of (cc := cX3_ofPerson) (maxL := 3) (ret := (some .int)) (own := RX3) (by decide) rfl rfl (Nat.le_of_ble_eq_true rfl) ?_
  intro p e s m args below meth c A ls B hP hD hS hl
  obtain ⟨hx, hb, hret, hml, hts, hown, hlocks, hE, hA⟩ := id B
  have hK := hE.1
  have hl : lv_has ls 3 [(0, .ref (ad 0)), (1, .int x1), (2, .int x2)] := hl
  refine lv_aload_n hx hb dX3_ofPerson_0 rfl (lv_at hl 0 rfl) ?_
  refine va_get (D := D) (ci := 3) (v := .ref (ad 2)) (C := RX3) (T := TX3) (N := 7) hx hb hts iw_X3_ofPerson_3 hown hK hP 0 rfl rfl 1 (by decide) (hts (.fieldLink RX3 20 "TownLisp" "now" "LTownLisp$Town;") (by decide +kernel)) (fun _ h9 => h9) rfl dX3_ofPerson_1 ?_
  refine lv_iload_n hx hb dX3_ofPerson_4 rfl (lv_at hl 1 rfl) ?_
  refine kc_V (As := [.int x1]) (rest := []) B (c_X2_has l D cI cO tF (ad 2) (ad 3) (ad 4) (ad 5) (X_now X) x1 ) (cwV 1 hts gX3_ofPerson_X2_has rfl rfl rfl (by decide +kernel) ⟨Nat.le_of_ble_eq_true rfl, Nat.le_of_ble_eq_true rfl⟩) hP hD hS [2, 3, 4, 5] wX_subN (by decide) (w' := wX ad cI cO X) (wX_sameN) rfl 2 2 rfl rfl rfl rfl hl.1 rfl (Nat.le_of_ble_eq_true rfl) dX3_ofPerson_5 ⟨Nat.zero_le _, Nat.zero_le _⟩ (fun H locs hP hD hS => ?_)
  have hD : va_D A (wX ad cI cO X) := hD
  refine lv_if_ne (tgt := 13) hx hb dX3_ofPerson_8 (by decide) (fun c_8 => ?_) (fun c_8 => ?_)
  · refine lv_iload_n hx hb dX3_ofPerson_13 rfl (lv_at hl 2 rfl) ?_
    by_cases c_14_0 : x2 = (0 : Int32)
    · refine lv_tableIn (off := 34) (tgt := 48) hx hb dX3_ofPerson_14 (by rw [c_14_0]; decide) (by rw [c_14_0]; decide) (by rw [c_14_0]; rfl) (by decide) ?_
      refine lv_aload_n hx hb dX3_ofPerson_48 rfl (lv_at hl 0 rfl) ?_
      refine va_get (D := D) (ci := 3) (v := .ref (ad 2)) (C := RX3) (T := TX3) (N := 7) hx hb hts iw_X3_ofPerson_3 hown hK hP 0 rfl rfl 1 (by decide) (hts (.fieldLink RX3 20 "TownLisp" "now" "LTownLisp$Town;") (by decide +kernel)) (fun _ h9 => h9) rfl dX3_ofPerson_49 ?_
      refine va_get (D := D) (ci := 2) (v := .ref (ad 3)) (C := RX2) (T := TX2) (N := 6) hx hb hts iw_X3_ofPerson_2 hown hK hP 2 rfl rfl 0 (by decide) (hts (.fieldLink RX3 73 "TownLisp$Town" "kind" "[I") (by decide +kernel)) (fun _ h9 => h9) rfl dX3_ofPerson_52 ?_
      refine lv_iload_n hx hb dX3_ofPerson_55 rfl (lv_at hl 1 rfl) ?_
      refine va_iald hx hb hK hP 3 0 rfl rfl (has_in hn c_8) dX3_ofPerson_56 ?_
      have hF : f_X3_ofPerson X x1 x2 = ((T_kind (X_now X)) x1.toNatClampNeg) := by rw [f_X3_ofPerson, if_neg c_8, if_pos c_14_0]
      rw [hF]
      exact kr_i B hP hS rfl rfl dX3_ofPerson_57
    by_cases c_14_1 : x2 = (1 : Int32)
    · refine lv_tableIn (off := 44) (tgt := 58) hx hb dX3_ofPerson_14 (by rw [c_14_1]; decide) (by rw [c_14_1]; decide) (by rw [c_14_1]; rfl) (by decide) ?_
      refine lv_aload_n hx hb dX3_ofPerson_58 rfl (lv_at hl 0 rfl) ?_
      refine va_get (D := D) (ci := 3) (v := .ref (ad 2)) (C := RX3) (T := TX3) (N := 7) hx hb hts iw_X3_ofPerson_3 hown hK hP 0 rfl rfl 1 (by decide) (hts (.fieldLink RX3 20 "TownLisp" "now" "LTownLisp$Town;") (by decide +kernel)) (fun _ h9 => h9) rfl dX3_ofPerson_59 ?_
      refine va_get (D := D) (ci := 2) (v := .ref (ad 4)) (C := RX2) (T := TX2) (N := 6) hx hb hts iw_X3_ofPerson_2 hown hK hP 2 rfl rfl 1 (by decide) (hts (.fieldLink RX3 77 "TownLisp$Town" "parts" "[I") (by decide +kernel)) (fun _ h9 => h9) rfl dX3_ofPerson_62 ?_
      refine lv_iload_n hx hb dX3_ofPerson_65 rfl (lv_at hl 1 rfl) ?_
      refine va_iald hx hb hK hP 4 0 rfl rfl (has_in hn c_8) dX3_ofPerson_66 ?_
      have hF : f_X3_ofPerson X x1 x2 = ((T_parts (X_now X)) x1.toNatClampNeg) := by rw [f_X3_ofPerson, if_neg c_8, if_neg c_14_0, if_pos c_14_1]
      rw [hF]
      exact kr_i B hP hS rfl rfl dX3_ofPerson_67
    by_cases c_14_2 : x2 = (2 : Int32)
    · refine lv_tableIn (off := 54) (tgt := 68) hx hb dX3_ofPerson_14 (by rw [c_14_2]; decide) (by rw [c_14_2]; decide) (by rw [c_14_2]; rfl) (by decide) ?_
      refine lv_aload_n hx hb dX3_ofPerson_68 rfl (lv_at hl 0 rfl) ?_
      refine va_get (D := D) (ci := 3) (v := .ref (ad 2)) (C := RX3) (T := TX3) (N := 7) hx hb hts iw_X3_ofPerson_3 hown hK hP 0 rfl rfl 1 (by decide) (hts (.fieldLink RX3 20 "TownLisp" "now" "LTownLisp$Town;") (by decide +kernel)) (fun _ h9 => h9) rfl dX3_ofPerson_69 ?_
      refine va_get (D := D) (ci := 2) (v := .ref (ad 5)) (C := RX2) (T := TX2) (N := 6) hx hb hts iw_X3_ofPerson_2 hown hK hP 2 rfl rfl 2 (by decide) (hts (.fieldLink RX3 80 "TownLisp$Town" "thick" "[I") (by decide +kernel)) (fun _ h9 => h9) rfl dX3_ofPerson_72 ?_
      refine lv_iload_n hx hb dX3_ofPerson_75 rfl (lv_at hl 1 rfl) ?_
      refine va_iald hx hb hK hP 5 0 rfl rfl (has_in hn c_8) dX3_ofPerson_76 ?_
      have hF : f_X3_ofPerson X x1 x2 = ((T_thick (X_now X)) x1.toNatClampNeg) := by rw [f_X3_ofPerson, if_neg c_8, if_neg c_14_0, if_neg c_14_1, if_pos c_14_2]
      rw [hF]
      exact kr_i B hP hS rfl rfl dX3_ofPerson_77
    by_cases c_14_3 : x2 = (3 : Int32)
    · refine lv_tableIn (off := 64) (tgt := 78) hx hb dX3_ofPerson_14 (by rw [c_14_3]; decide) (by rw [c_14_3]; decide) (by rw [c_14_3]; rfl) (by decide) ?_
      refine lv_aload_n hx hb dX3_ofPerson_78 rfl (lv_at hl 0 rfl) ?_
      refine va_get (D := D) (ci := 3) (v := .ref (ad 2)) (C := RX3) (T := TX3) (N := 7) hx hb hts iw_X3_ofPerson_3 hown hK hP 0 rfl rfl 1 (by decide) (hts (.fieldLink RX3 20 "TownLisp" "now" "LTownLisp$Town;") (by decide +kernel)) (fun _ h9 => h9) rfl dX3_ofPerson_79 ?_
      refine lv_iload_n hx hb dX3_ofPerson_82 rfl (lv_at hl 1 rfl) ?_
      refine kc_V (As := [.int x1]) (rest := []) B (c_X2_isIn l D cI cO tF (ad 2) (ad 3) (ad 4) (ad 5) (X_now X) x1 ) (cwV 1 hts gX3_ofPerson_X2_isIn rfl rfl rfl (by decide +kernel) ⟨Nat.le_of_ble_eq_true rfl, Nat.le_of_ble_eq_true rfl⟩) hP hD hS [2, 3, 4, 5] wX_subN (by decide) (w' := wX ad cI cO X) (wX_sameN) rfl 2 2 rfl rfl rfl rfl hl.1 rfl (Nat.le_of_ble_eq_true rfl) dX3_ofPerson_83 ⟨Nat.zero_le _, Nat.zero_le _⟩ (fun H locs hP hD hS => ?_)
      have hD : va_D A (wX ad cI cO X) := hD
      refine lv_if_eq (tgt := 93) hx hb dX3_ofPerson_86 (by decide) (fun c_86 => ?_) (fun c_86 => ?_)
      · refine lv_iconst (v := (0 : Int32)) hx hb dX3_ofPerson_93 (by decide) ?_
        have hF : f_X3_ofPerson X x1 x2 = (0 : Int32) := by rw [f_X3_ofPerson, if_neg c_8, if_neg c_14_0, if_neg c_14_1, if_neg c_14_2, if_pos c_14_3, if_pos c_86]
        rw [hF]
        exact kr_i B hP hS rfl rfl dX3_ofPerson_94
      · refine lv_iconst (v := (1 : Int32)) hx hb dX3_ofPerson_89 (by decide) ?_
        refine lv_goto (tgt := 94) hx hb dX3_ofPerson_90 (by decide) ?_
        have hF : f_X3_ofPerson X x1 x2 = (1 : Int32) := by rw [f_X3_ofPerson, if_neg c_8, if_neg c_14_0, if_neg c_14_1, if_neg c_14_2, if_pos c_14_3, if_neg c_86]
        rw [hF]
        exact kr_i B hP hS rfl rfl dX3_ofPerson_94
    by_cases c_14_4 : x2 = (4 : Int32)
    · refine lv_tableIn (off := 81) (tgt := 95) hx hb dX3_ofPerson_14 (by rw [c_14_4]; decide) (by rw [c_14_4]; decide) (by rw [c_14_4]; rfl) (by decide) ?_
      refine lv_aload_n hx hb dX3_ofPerson_95 rfl (lv_at hl 0 rfl) ?_
      refine va_get (D := D) (ci := 3) (v := .ref (ad 2)) (C := RX3) (T := TX3) (N := 7) hx hb hts iw_X3_ofPerson_3 hown hK hP 0 rfl rfl 1 (by decide) (hts (.fieldLink RX3 20 "TownLisp" "now" "LTownLisp$Town;") (by decide +kernel)) (fun _ h9 => h9) rfl dX3_ofPerson_96 ?_
      refine lv_iload_n hx hb dX3_ofPerson_99 rfl (lv_at hl 1 rfl) ?_
      refine kc_V (As := [.int x1]) (rest := []) B (c_X2_saysNow l D cI cO tF (ad 2) (ad 3) (ad 4) (ad 5) (X_now X) x1 (has_in hn c_8)) (cwV 1 hts gX3_ofPerson_X2_saysNow rfl rfl rfl (by decide +kernel) ⟨Nat.le_of_ble_eq_true rfl, Nat.le_of_ble_eq_true rfl⟩) hP hD hS [2, 3, 4, 5] wX_subN (by decide) (w' := wX ad cI cO X) (wX_sameN) rfl 2 2 rfl rfl rfl rfl hl.1 rfl (Nat.le_of_ble_eq_true rfl) dX3_ofPerson_100 ⟨Nat.zero_le _, Nat.zero_le _⟩ (fun H locs hP hD hS => ?_)
      have hD : va_D A (wX ad cI cO X) := hD
      have hF : f_X3_ofPerson X x1 x2 = (f_X2_saysNow (X_now X) x1) := by rw [f_X3_ofPerson, if_neg c_8, if_neg c_14_0, if_neg c_14_1, if_neg c_14_2, if_neg c_14_3, if_pos c_14_4]
      rw [hF]
      exact kr_i B hP hS rfl rfl dX3_ofPerson_103
    refine lv_tableOut (tgt := 104) hx hb dX3_ofPerson_14 (sw_out5 c_14_0 c_14_1 c_14_2 c_14_3 c_14_4) (by decide) ?_
    refine lv_bipush (v := (-2 : Int32)) hx hb dX3_ofPerson_104 (by decide) ?_
    have hF : f_X3_ofPerson X x1 x2 = (-2 : Int32) := by rw [f_X3_ofPerson, if_neg c_8, if_neg c_14_0, if_neg c_14_1, if_neg c_14_2, if_neg c_14_3, if_neg c_14_4]
    rw [hF]
    exact kr_i B hP hS rfl rfl dX3_ofPerson_106
  · refine lv_iconst (v := (-1 : Int32)) hx hb dX3_ofPerson_11 (by decide) ?_
    have hF : f_X3_ofPerson X x1 x2 = (-1 : Int32) := by rw [f_X3_ofPerson, if_pos c_8]
    rw [hF]
    exact kr_i B hP hS rfl rfl dX3_ofPerson_12
def f_X3_tune (X : XS) (x1 : Int32) (x2 : Int32) : Int32 × XS := (if (f_X2_has (X_now X) x1) = 0 then ((-1 : Int32), X) else (if x2 < (1 : Int32) then ((-2 : Int32), X) else (if x2 ≤ (9 : Int32) then (((T_thick (X_now X)) x1.toNatClampNeg), (X_now' X (T_thick' (X_now X) (upd (T_thick (X_now X)) x1.toNatClampNeg x2)))) else ((-2 : Int32), X))))
theorem iw_X3_tune_2 : ∀ w ∈ wsX20, w ∈ wsX3_tune := fun _ h => List.mem_cons_of_mem _ (List.mem_append_right _ h)
theorem iw_X3_tune_3 : ∀ w ∈ wsX30, w ∈ wsX3_tune := fun _ h => List.mem_cons_of_mem _ (List.mem_append_left _ (List.mem_append_right _ h))
set_option maxHeartbeats 4000000 in
set_option maxRecDepth 100000 in
theorem c_X3_tune (l : Launch) (D : va_G) (cI cO : ClassId) (tF : Nat) (ad : Nat → Nat) (X : XS) (x1 : Int32) (x2 : Int32) (hn : (T_count (X_now X)).toInt ≤ 6) : Ct l yX3_tune wsX3_tune ({ frames := 1, cells := 0, slots := 0, locals := 21 }) D cI cO tF [.ref (ad 0), .int x1, .int x2] (wX ad cI cO X) (some (.int ((f_X3_tune X x1 x2).1))) (wX ad cI cO ((f_X3_tune X x1 x2).2)) := by
  refine Ct.of (cc := cX3_tune) (maxL := 4) (ret := (some .int)) (own := RX3) (by decide) rfl rfl (Nat.le_of_ble_eq_true rfl) ?_
  intro p e s m args below meth c A ls B hP hD hS hl
  obtain ⟨hx, hb, hret, hml, hts, hown, hlocks, hE, hA⟩ := id B
  have hK := hE.1
  have hl : lv_has ls 4 [(0, .ref (ad 0)), (1, .int x1), (2, .int x2)] := hl
  refine lv_aload_n hx hb dX3_tune_0 rfl (lv_at hl 0 rfl) ?_
  refine va_get (D := D) (ci := 3) (v := .ref (ad 2)) (C := RX3) (T := TX3) (N := 7) hx hb hts iw_X3_tune_3 hown hK hP 0 rfl rfl 1 (by decide) (hts (.fieldLink RX3 20 "TownLisp" "now" "LTownLisp$Town;") (by decide +kernel)) (fun _ h9 => h9) rfl dX3_tune_1 ?_
  refine lv_iload_n hx hb dX3_tune_4 rfl (lv_at hl 1 rfl) ?_
  refine kc_V (As := [.int x1]) (rest := []) B (c_X2_has l D cI cO tF (ad 2) (ad 3) (ad 4) (ad 5) (X_now X) x1 ) (cwV 1 hts gX3_tune_X2_has rfl rfl rfl (by decide +kernel) ⟨Nat.le_of_ble_eq_true rfl, Nat.le_of_ble_eq_true rfl⟩) hP hD hS [2, 3, 4, 5] wX_subN (by decide) (w' := wX ad cI cO X) (wX_sameN) rfl 2 2 rfl rfl rfl rfl hl.1 rfl (Nat.le_of_ble_eq_true rfl) dX3_tune_5 ⟨Nat.zero_le _, Nat.zero_le _⟩ (fun H locs hP hD hS => ?_)
  have hD : va_D A (wX ad cI cO X) := hD
  refine lv_if_ne (tgt := 13) hx hb dX3_tune_8 (by decide) (fun c_8 => ?_) (fun c_8 => ?_)
  · refine lv_iload_n hx hb dX3_tune_13 rfl (lv_at hl 2 rfl) ?_
    refine lv_iconst (v := (1 : Int32)) hx hb dX3_tune_14 (by decide) ?_
    refine lv_icmp_lt (tgt := 24) hx hb dX3_tune_15 (by decide) (fun c_15 => ?_) (fun c_15 => ?_)
    · refine lv_bipush (v := (-2 : Int32)) hx hb dX3_tune_24 (by decide) ?_
      have hF : f_X3_tune X x1 x2 = ((-2 : Int32), X) := by rw [f_X3_tune, if_neg c_8, if_pos c_15]
      rw [hF]
      exact kr_i B hP hS rfl rfl dX3_tune_26
    · refine lv_iload_n hx hb dX3_tune_18 rfl (lv_at hl 2 rfl) ?_
      refine lv_bipush (v := (9 : Int32)) hx hb dX3_tune_19 (by decide) ?_
      refine lv_icmp_le (tgt := 27) hx hb dX3_tune_21 (by decide) (fun c_21 => ?_) (fun c_21 => ?_)
      · refine lv_aload_n hx hb dX3_tune_27 rfl (lv_at hl 0 rfl) ?_
        refine va_get (D := D) (ci := 3) (v := .ref (ad 2)) (C := RX3) (T := TX3) (N := 7) hx hb hts iw_X3_tune_3 hown hK hP 0 rfl rfl 1 (by decide) (hts (.fieldLink RX3 20 "TownLisp" "now" "LTownLisp$Town;") (by decide +kernel)) (fun _ h9 => h9) rfl dX3_tune_28 ?_
        refine va_get (D := D) (ci := 2) (v := .ref (ad 5)) (C := RX2) (T := TX2) (N := 6) hx hb hts iw_X3_tune_2 hown hK hP 2 rfl rfl 2 (by decide) (hts (.fieldLink RX3 80 "TownLisp$Town" "thick" "[I") (by decide +kernel)) (fun _ h9 => h9) rfl dX3_tune_31 ?_
        refine lv_iload_n hx hb dX3_tune_34 rfl (lv_at hl 1 rfl) ?_
        refine va_iald hx hb hK hP 5 0 rfl rfl (has_in hn c_8) dX3_tune_35 ?_
        refine lv_istore_n (lv' := [(3, .int ((T_thick (X_now X)) x1.toNatClampNeg)), (0, .ref (ad 0)), (1, .int x1), (2, .int x2)]) hx hb dX3_tune_36 rfl hl (by decide) rfl (fun ls hl => ?_)
        refine lv_aload_n hx hb dX3_tune_37 rfl (lv_at hl 1 rfl) ?_
        refine va_get (D := D) (ci := 3) (v := .ref (ad 2)) (C := RX3) (T := TX3) (N := 7) hx hb hts iw_X3_tune_3 hown hK hP 0 rfl rfl 1 (by decide) (hts (.fieldLink RX3 20 "TownLisp" "now" "LTownLisp$Town;") (by decide +kernel)) (fun _ h9 => h9) rfl dX3_tune_38 ?_
        refine va_get (D := D) (ci := 2) (v := .ref (ad 5)) (C := RX2) (T := TX2) (N := 6) hx hb hts iw_X3_tune_2 hown hK hP 2 rfl rfl 2 (by decide) (hts (.fieldLink RX3 80 "TownLisp$Town" "thick" "[I") (by decide +kernel)) (fun _ h9 => h9) rfl dX3_tune_41 ?_
        refine lv_iload_n hx hb dX3_tune_44 rfl (lv_at hl 2 rfl) ?_
        refine lv_iload_n hx hb dX3_tune_45 rfl (lv_at hl 3 rfl) ?_
        refine va_iast hx hb hK hP hD hS 5 0 rfl rfl (has_in hn c_8) dX3_tune_46 (fun H locs hP hD hS => ?_)
        have hP : va_P D vwCl (wX ad cI cO (X_now' X (T_thick' (X_now X) (upd (T_thick (X_now X)) x1.toNatClampNeg x2)))) H := hP
        have hD : va_D A (wX ad cI cO (X_now' X (T_thick' (X_now X) (upd (T_thick (X_now X)) x1.toNatClampNeg x2)))) := hD
        refine lv_iload_n hx hb dX3_tune_47 rfl (lv_at hl 0 rfl) ?_
        have hF : f_X3_tune X x1 x2 = (((T_thick (X_now X)) x1.toNatClampNeg), (X_now' X (T_thick' (X_now X) (upd (T_thick (X_now X)) x1.toNatClampNeg x2)))) := by rw [f_X3_tune, if_neg c_8, if_neg c_15, if_pos c_21]
        rw [hF]
        exact kr_i B hP hS rfl rfl dX3_tune_48
      · refine lv_bipush (v := (-2 : Int32)) hx hb dX3_tune_24 (by decide) ?_
        have hF : f_X3_tune X x1 x2 = ((-2 : Int32), X) := by rw [f_X3_tune, if_neg c_8, if_neg c_15, if_neg c_21]
        rw [hF]
        exact kr_i B hP hS rfl rfl dX3_tune_26
  · refine lv_iconst (v := (-1 : Int32)) hx hb dX3_tune_11 (by decide) ?_
    have hF : f_X3_tune X x1 x2 = ((-1 : Int32), X) := by rw [f_X3_tune, if_pos c_8]
    rw [hF]
    exact kr_i B hP hS rfl rfl dX3_tune_12
def f_X3_heard (X : XS) (x1 : Int32) : Int32 := (if x1 < 0 then (-2 : Int32) else (if x1 ≤ (2 : Int32) then (if (T_count (X_now X)) = 0 then (-3 : Int32) else (if x1 = 0 then (f_X2_allSay (X_now X)) else (if x1 = (1 : Int32) then (T_inside (X_now X)) else (f_X2_partsOf (X_now X) (T_inside (X_now X)))))) else (-2 : Int32)))
theorem iw_X3_heard_2 : ∀ w ∈ wsX20, w ∈ wsX3_heard := fun _ h => List.mem_cons_of_mem _ (List.mem_append_right _ h)
theorem iw_X3_heard_3 : ∀ w ∈ wsX30, w ∈ wsX3_heard := fun _ h => List.mem_cons_of_mem _ (List.mem_append_left _ (List.mem_append_right _ h))
set_option maxHeartbeats 4000000 in
set_option maxRecDepth 100000 in
theorem c_X3_heard (l : Launch) (D : va_G) (cI cO : ClassId) (tF : Nat) (ad : Nat → Nat) (X : XS) (x1 : Int32) (hn : (T_count (X_now X)).toInt ≤ 6) : Ct l yX3_heard wsX3_heard ({ frames := 4, cells := 0, slots := 0, locals := 90 }) D cI cO tF [.ref (ad 0), .int x1] (wX ad cI cO X) (some (.int (f_X3_heard X x1))) (wX ad cI cO X) := by
  refine Ct.of (cc := cX3_heard) (maxL := 2) (ret := (some .int)) (own := RX3) (by decide) rfl rfl (Nat.le_of_ble_eq_true rfl) ?_
  intro p e s m args below meth c A ls B hP hD hS hl
  obtain ⟨hx, hb, hret, hml, hts, hown, hlocks, hE, hA⟩ := id B
  have hK := hE.1
  have hl : lv_has ls 2 [(0, .ref (ad 0)), (1, .int x1)] := hl
  refine lv_iload_n hx hb dX3_heard_0 rfl (lv_at hl 1 rfl) ?_
  refine lv_if_lt (tgt := 9) hx hb dX3_heard_1 (by decide) (fun c_1 => ?_) (fun c_1 => ?_)
  · refine lv_bipush (v := (-2 : Int32)) hx hb dX3_heard_9 (by decide) ?_
    have hF : f_X3_heard X x1 = (-2 : Int32) := by rw [f_X3_heard, if_pos c_1]
    rw [hF]
    exact kr_i B hP hS rfl rfl dX3_heard_11
  · refine lv_iload_n hx hb dX3_heard_4 rfl (lv_at hl 1 rfl) ?_
    refine lv_iconst (v := (2 : Int32)) hx hb dX3_heard_5 (by decide) ?_
    refine lv_icmp_le (tgt := 12) hx hb dX3_heard_6 (by decide) (fun c_6 => ?_) (fun c_6 => ?_)
    · refine lv_aload_n hx hb dX3_heard_12 rfl (lv_at hl 0 rfl) ?_
      refine va_get (D := D) (ci := 3) (v := .ref (ad 2)) (C := RX3) (T := TX3) (N := 7) hx hb hts iw_X3_heard_3 hown hK hP 0 rfl rfl 1 (by decide) (hts (.fieldLink RX3 20 "TownLisp" "now" "LTownLisp$Town;") (by decide +kernel)) (fun _ h9 => h9) rfl dX3_heard_13 ?_
      refine va_get (D := D) (ci := 2) (v := .int (T_count (X_now X))) (C := RX2) (T := TX2) (N := 6) hx hb hts iw_X3_heard_2 hown hK hP 2 rfl rfl 3 (by decide) (hts (.fieldLink RX3 69 "TownLisp$Town" "count" "I") (by decide +kernel)) (fun _ h9 => h9) rfl dX3_heard_16 ?_
      refine lv_if_ne (tgt := 25) hx hb dX3_heard_19 (by decide) (fun c_19 => ?_) (fun c_19 => ?_)
      · refine lv_iload_n hx hb dX3_heard_25 rfl (lv_at hl 1 rfl) ?_
        refine lv_if_ne (tgt := 37) hx hb dX3_heard_26 (by decide) (fun c_26 => ?_) (fun c_26 => ?_)
        · refine lv_iload_n hx hb dX3_heard_37 rfl (lv_at hl 1 rfl) ?_
          refine lv_iconst (v := (1 : Int32)) hx hb dX3_heard_38 (by decide) ?_
          refine lv_icmp_ne (tgt := 52) hx hb dX3_heard_39 (by decide) (fun c_39 => ?_) (fun c_39 => ?_)
          · refine lv_aload_n hx hb dX3_heard_52 rfl (lv_at hl 0 rfl) ?_
            refine va_get (D := D) (ci := 3) (v := .ref (ad 2)) (C := RX3) (T := TX3) (N := 7) hx hb hts iw_X3_heard_3 hown hK hP 0 rfl rfl 1 (by decide) (hts (.fieldLink RX3 20 "TownLisp" "now" "LTownLisp$Town;") (by decide +kernel)) (fun _ h9 => h9) rfl dX3_heard_53 ?_
            refine lv_aload_n hx hb dX3_heard_56 rfl (lv_at hl 0 rfl) ?_
            refine va_get (D := D) (ci := 3) (v := .ref (ad 2)) (C := RX3) (T := TX3) (N := 7) hx hb hts iw_X3_heard_3 hown hK hP 0 rfl rfl 1 (by decide) (hts (.fieldLink RX3 20 "TownLisp" "now" "LTownLisp$Town;") (by decide +kernel)) (fun _ h9 => h9) rfl dX3_heard_57 ?_
            refine va_get (D := D) (ci := 2) (v := .int (T_inside (X_now X))) (C := RX2) (T := TX2) (N := 6) hx hb hts iw_X3_heard_2 hown hK hP 2 rfl rfl 4 (by decide) (hts (.fieldLink RX3 93 "TownLisp$Town" "inside" "I") (by decide +kernel)) (fun _ h9 => h9) rfl dX3_heard_60 ?_
            refine kc_V (As := [.int (T_inside (X_now X))]) (rest := []) B (c_X2_partsOf l D cI cO tF (ad 2) (ad 3) (ad 4) (ad 5) (X_now X) (T_inside (X_now X)) (hn)) (cwV 1 hts gX3_heard_X2_partsOf rfl rfl rfl (by decide +kernel) ⟨Nat.le_of_ble_eq_true rfl, Nat.le_of_ble_eq_true rfl⟩) hP hD hS [2, 3, 4, 5] wX_subN (by decide) (w' := wX ad cI cO X) (wX_sameN) rfl 2 2 rfl rfl rfl rfl hl.1 rfl (Nat.le_of_ble_eq_true rfl) dX3_heard_63 ⟨Nat.zero_le _, Nat.zero_le _⟩ (fun H locs hP hD hS => ?_)
            have hD : va_D A (wX ad cI cO X) := hD
            have hF : f_X3_heard X x1 = (f_X2_partsOf (X_now X) (T_inside (X_now X))) := by rw [f_X3_heard, if_neg c_1, if_pos c_6, if_neg c_19, if_neg c_26, if_neg c_39]
            rw [hF]
            exact kr_i B hP hS rfl rfl dX3_heard_66
          · refine lv_aload_n hx hb dX3_heard_42 rfl (lv_at hl 0 rfl) ?_
            refine va_get (D := D) (ci := 3) (v := .ref (ad 2)) (C := RX3) (T := TX3) (N := 7) hx hb hts iw_X3_heard_3 hown hK hP 0 rfl rfl 1 (by decide) (hts (.fieldLink RX3 20 "TownLisp" "now" "LTownLisp$Town;") (by decide +kernel)) (fun _ h9 => h9) rfl dX3_heard_43 ?_
            refine va_get (D := D) (ci := 2) (v := .int (T_inside (X_now X))) (C := RX2) (T := TX2) (N := 6) hx hb hts iw_X3_heard_2 hown hK hP 2 rfl rfl 4 (by decide) (hts (.fieldLink RX3 93 "TownLisp$Town" "inside" "I") (by decide +kernel)) (fun _ h9 => h9) rfl dX3_heard_46 ?_
            refine lv_goto (tgt := 66) hx hb dX3_heard_49 (by decide) ?_
            have hF : f_X3_heard X x1 = (T_inside (X_now X)) := by rw [f_X3_heard, if_neg c_1, if_pos c_6, if_neg c_19, if_neg c_26, if_pos c_39]
            rw [hF]
            exact kr_i B hP hS rfl rfl dX3_heard_66
        · refine lv_aload_n hx hb dX3_heard_29 rfl (lv_at hl 0 rfl) ?_
          refine va_get (D := D) (ci := 3) (v := .ref (ad 2)) (C := RX3) (T := TX3) (N := 7) hx hb hts iw_X3_heard_3 hown hK hP 0 rfl rfl 1 (by decide) (hts (.fieldLink RX3 20 "TownLisp" "now" "LTownLisp$Town;") (by decide +kernel)) (fun _ h9 => h9) rfl dX3_heard_30 ?_
          refine kc_V (As := []) (rest := []) B (c_X2_allSay l D cI cO tF (ad 2) (ad 3) (ad 4) (ad 5) (X_now X) (hn)) (cwV 0 hts gX3_heard_X2_allSay rfl rfl rfl (by decide +kernel) ⟨Nat.le_of_ble_eq_true rfl, Nat.le_of_ble_eq_true rfl⟩) hP hD hS [2, 3, 4, 5] wX_subN (by decide) (w' := wX ad cI cO X) (wX_sameN) rfl 2 2 rfl rfl rfl rfl hl.1 rfl (Nat.le_of_ble_eq_true rfl) dX3_heard_33 ⟨Nat.zero_le _, Nat.zero_le _⟩ (fun H locs hP hD hS => ?_)
          have hD : va_D A (wX ad cI cO X) := hD
          have hF : f_X3_heard X x1 = (f_X2_allSay (X_now X)) := by rw [f_X3_heard, if_neg c_1, if_pos c_6, if_neg c_19, if_pos c_26]
          rw [hF]
          exact kr_i B hP hS rfl rfl dX3_heard_36
      · refine lv_bipush (v := (-3 : Int32)) hx hb dX3_heard_22 (by decide) ?_
        have hF : f_X3_heard X x1 = (-3 : Int32) := by rw [f_X3_heard, if_neg c_1, if_pos c_6, if_pos c_19]
        rw [hF]
        exact kr_i B hP hS rfl rfl dX3_heard_24
    · refine lv_bipush (v := (-2 : Int32)) hx hb dX3_heard_9 (by decide) ?_
      have hF : f_X3_heard X x1 = (-2 : Int32) := by rw [f_X3_heard, if_neg c_1, if_neg c_6]
      rw [hF]
      exact kr_i B hP hS rfl rfl dX3_heard_11
def f_X3_act (X : XS) (x1 : Int32) (x2 : Int32) : Int32 × XS := (if (f_X2_has (X_now X) x1) = 0 then ((-1 : Int32), X) else ((f_X2_acts (X_now X) x1 x2).1, (X_now' X (f_X2_acts (X_now X) x1 x2).2)))
theorem iw_X3_act_3 : ∀ w ∈ wsX30, w ∈ wsX3_act := fun _ h => List.mem_cons_of_mem _ (List.mem_append_left _ (List.mem_append_right _ h))
set_option maxHeartbeats 4000000 in
set_option maxRecDepth 100000 in
theorem c_X3_act (l : Launch) (D : va_G) (cI cO : ClassId) (tF : Nat) (ad : Nat → Nat) (X : XS) (x1 : Int32) (x2 : Int32) (hn : (T_count (X_now X)).toInt ≤ 6) : Ct l yX3_act wsX3_act ({ frames := 5, cells := 0, slots := 0, locals := 115 }) D cI cO tF [.ref (ad 0), .int x1, .int x2] (wX ad cI cO X) (some (.int ((f_X3_act X x1 x2).1))) (wX ad cI cO ((f_X3_act X x1 x2).2)) := by
  refine Ct.of (cc := cX3_act) (maxL := 3) (ret := (some .int)) (own := RX3) (by decide) rfl rfl (Nat.le_of_ble_eq_true rfl) ?_
  intro p e s m args below meth c A ls B hP hD hS hl
  obtain ⟨hx, hb, hret, hml, hts, hown, hlocks, hE, hA⟩ := id B
  have hK := hE.1
  have hl : lv_has ls 3 [(0, .ref (ad 0)), (1, .int x1), (2, .int x2)] := hl
  refine lv_aload_n hx hb dX3_act_0 rfl (lv_at hl 0 rfl) ?_
  refine va_get (D := D) (ci := 3) (v := .ref (ad 2)) (C := RX3) (T := TX3) (N := 7) hx hb hts iw_X3_act_3 hown hK hP 0 rfl rfl 1 (by decide) (hts (.fieldLink RX3 20 "TownLisp" "now" "LTownLisp$Town;") (by decide +kernel)) (fun _ h9 => h9) rfl dX3_act_1 ?_
  refine lv_iload_n hx hb dX3_act_4 rfl (lv_at hl 1 rfl) ?_
  refine kc_V (As := [.int x1]) (rest := []) B (c_X2_has l D cI cO tF (ad 2) (ad 3) (ad 4) (ad 5) (X_now X) x1 ) (cwV 1 hts gX3_act_X2_has rfl rfl rfl (by decide +kernel) ⟨Nat.le_of_ble_eq_true rfl, Nat.le_of_ble_eq_true rfl⟩) hP hD hS [2, 3, 4, 5] wX_subN (by decide) (w' := wX ad cI cO X) (wX_sameN) rfl 2 2 rfl rfl rfl rfl hl.1 rfl (Nat.le_of_ble_eq_true rfl) dX3_act_5 ⟨Nat.zero_le _, Nat.zero_le _⟩ (fun H locs hP hD hS => ?_)
  have hD : va_D A (wX ad cI cO X) := hD
  refine lv_if_eq (tgt := 23) hx hb dX3_act_8 (by decide) (fun c_8 => ?_) (fun c_8 => ?_)
  · refine lv_iconst (v := (-1 : Int32)) hx hb dX3_act_23 (by decide) ?_
    have hF : f_X3_act X x1 x2 = ((-1 : Int32), X) := by rw [f_X3_act, if_pos c_8]
    rw [hF]
    exact kr_i B hP hS rfl rfl dX3_act_24
  · refine lv_aload_n hx hb dX3_act_11 rfl (lv_at hl 0 rfl) ?_
    refine va_get (D := D) (ci := 3) (v := .ref (ad 2)) (C := RX3) (T := TX3) (N := 7) hx hb hts iw_X3_act_3 hown hK hP 0 rfl rfl 1 (by decide) (hts (.fieldLink RX3 20 "TownLisp" "now" "LTownLisp$Town;") (by decide +kernel)) (fun _ h9 => h9) rfl dX3_act_12 ?_
    refine lv_iload_n hx hb dX3_act_15 rfl (lv_at hl 1 rfl) ?_
    refine lv_iload_n hx hb dX3_act_16 rfl (lv_at hl 2 rfl) ?_
    refine kc_V (As := [.int x1, .int x2]) (rest := []) B (c_X2_acts l D cI cO tF (ad 2) (ad 3) (ad 4) (ad 5) (X_now X) x1 x2 (hn) (has_in hn c_8)) (cwV 2 hts gX3_act_X2_acts rfl rfl rfl (by decide +kernel) ⟨Nat.le_of_ble_eq_true rfl, Nat.le_of_ble_eq_true rfl⟩) hP hD hS [2, 3, 4, 5] wX_subN (by decide) (w' := wX ad cI cO (X_now' X (f_X2_acts (X_now X) x1 x2).2)) (wX_setN _) rfl 2 2 rfl rfl rfl rfl hl.1 rfl (Nat.le_of_ble_eq_true rfl) dX3_act_17 ⟨Nat.zero_le _, Nat.zero_le _⟩ (fun H locs hP hD hS => ?_)
    have hD : va_D A (wX ad cI cO (X_now' X (f_X2_acts (X_now X) x1 x2).2)) := hD
    refine lv_goto (tgt := 24) hx hb dX3_act_20 (by decide) ?_
    have hF : f_X3_act X x1 x2 = ((f_X2_acts (X_now X) x1 x2).1, (X_now' X (f_X2_acts (X_now X) x1 x2).2)) := by rw [f_X3_act, if_neg c_8]
    rw [hF]
    exact kr_i B hP hS rfl rfl dX3_act_24
def f_X3_day (X : XS) (x1 : Int32) : Int32 × XS := (if (f_X3_act X x1 (0 : Int32)).1 < 0 then ((f_X3_act X x1 (0 : Int32)).1, (f_X3_act X x1 (0 : Int32)).2) else ((f_X3_act X x1 (0 : Int32)).1, (X_daysGone' (f_X3_act X x1 (0 : Int32)).2 ((X_daysGone (f_X3_act X x1 (0 : Int32)).2) + (1 : Int32)))))
theorem iw_X3_day_3 : ∀ w ∈ wsX30, w ∈ wsX3_day := fun _ h => List.mem_cons_of_mem _ (List.mem_append_left _ (List.mem_append_right _ h))
set_option maxHeartbeats 4000000 in
set_option maxRecDepth 100000 in
theorem c_X3_day (l : Launch) (D : va_G) (cI cO : ClassId) (tF : Nat) (ad : Nat → Nat) (X : XS) (x1 : Int32) (hn : (T_count (X_now X)).toInt ≤ 6) : Ct l yX3_day wsX3_day ({ frames := 6, cells := 0, slots := 0, locals := 137 }) D cI cO tF [.ref (ad 0), .int x1] (wX ad cI cO X) (some (.int ((f_X3_day X x1).1))) (wX ad cI cO ((f_X3_day X x1).2)) := by
  refine Ct.of (cc := cX3_day) (maxL := 3) (ret := (some .int)) (own := RX3) (by decide) rfl rfl (Nat.le_of_ble_eq_true rfl) ?_
  intro p e s m args below meth c A ls B hP hD hS hl
  obtain ⟨hx, hb, hret, hml, hts, hown, hlocks, hE, hA⟩ := id B
  have hK := hE.1
  have hl : lv_has ls 3 [(0, .ref (ad 0)), (1, .int x1)] := hl
  refine lv_aload_n hx hb dX3_day_0 rfl (lv_at hl 0 rfl) ?_
  refine lv_iload_n hx hb dX3_day_1 rfl (lv_at hl 1 rfl) ?_
  refine lv_iconst (v := (0 : Int32)) hx hb dX3_day_2 (by decide) ?_
  refine kc_V (As := [.int x1, .int (0 : Int32)]) (rest := []) B (c_X3_act l D cI cO tF ad X x1 (0 : Int32) (hn)) (cwV 2 hts gX3_day_X3_act rfl rfl rfl (by decide +kernel) ⟨Nat.le_of_ble_eq_true rfl, Nat.le_of_ble_eq_true rfl⟩) hP hD hS [0, 1, 2, 3, 4, 5, 6, 7, 8, 9, 10, 11, 12, 13, 14, 15, 16, 17, 18, 19, 20, 21] wX_subA (by decide) (w' := wX ad cI cO ((f_X3_act X x1 (0 : Int32)).2)) (wX_setA _) (wX_fst _) 0 3 rfl rfl rfl rfl hl.1 rfl (Nat.le_of_ble_eq_true rfl) dX3_day_3 ⟨Nat.zero_le _, Nat.zero_le _⟩ (fun H locs hP hD hS => ?_)
  have hD : va_D A (wX ad cI cO ((f_X3_act X x1 (0 : Int32)).2)) := hD
  refine lv_istore_n (lv' := [(2, .int ((f_X3_act X x1 (0 : Int32)).1)), (0, .ref (ad 0)), (1, .int x1)]) hx hb dX3_day_6 rfl hl (by decide) rfl (fun ls hl => ?_)
  refine lv_iload_n hx hb dX3_day_7 rfl (lv_at hl 0 rfl) ?_
  refine lv_if_lt (tgt := 21) hx hb dX3_day_8 (by decide) (fun c_8 => ?_) (fun c_8 => ?_)
  · refine lv_iload_n hx hb dX3_day_21 rfl (lv_at hl 0 rfl) ?_
    have hF : f_X3_day X x1 = ((f_X3_act X x1 (0 : Int32)).1, (f_X3_act X x1 (0 : Int32)).2) := by rw [f_X3_day, if_pos c_8]
    rw [hF]
    exact kr_i B hP hS rfl rfl dX3_day_22
  · refine lv_aload_n hx hb dX3_day_11 rfl (lv_at hl 1 rfl) ?_
    refine lv_dup hx hb dX3_day_12 rfl ?_
    refine va_get (D := D) (ci := 3) (v := .int (X_daysGone (f_X3_act X x1 (0 : Int32)).2)) (C := RX3) (T := TX3) (N := 7) hx hb hts iw_X3_day_3 hown hK hP 0 rfl rfl 4 (by decide) (hts (.fieldLink RX3 66 "TownLisp" "daysGone" "I") (by decide +kernel)) (fun _ h9 => h9) rfl dX3_day_13 ?_
    refine lv_iconst (v := (1 : Int32)) hx hb dX3_day_16 (by decide) ?_
    refine lv_iadd hx hb dX3_day_17 ?_
    refine va_put (D := D) (ci := 3) (v := .int ((X_daysGone (f_X3_act X x1 (0 : Int32)).2) + (1 : Int32))) (ty := .int) (C := RX3) (T := TX3) (N := 7) hx hb hts iw_X3_day_3 tyX3 tyX3_ok nmX3 hown hK hP hD hS 0 rfl rfl 4 (by decide) (hts (.fieldLink RX3 66 "TownLisp" "daysGone" "I") (by decide +kernel)) (fun _ h9 => h9) rfl (by decide +kernel) rfl rfl (Nat.le_of_ble_eq_true rfl) dX3_day_18 (fun H locs hP hD hS => ?_)
    have hP : va_P D vwCl (wX ad cI cO (X_daysGone' (f_X3_act X x1 (0 : Int32)).2 ((X_daysGone (f_X3_act X x1 (0 : Int32)).2) + (1 : Int32)))) H := hP
    have hD : va_D A (wX ad cI cO (X_daysGone' (f_X3_act X x1 (0 : Int32)).2 ((X_daysGone (f_X3_act X x1 (0 : Int32)).2) + (1 : Int32)))) := hD
    refine lv_iload_n hx hb dX3_day_21 rfl (lv_at hl 0 rfl) ?_
    have hF : f_X3_day X x1 = ((f_X3_act X x1 (0 : Int32)).1, (X_daysGone' (f_X3_act X x1 (0 : Int32)).2 ((X_daysGone (f_X3_act X x1 (0 : Int32)).2) + (1 : Int32)))) := by rw [f_X3_day, if_neg c_8]
    rw [hF]
    exact kr_i B hP hS rfl rfl dX3_day_22
def f_X3_leave (X : XS) (x1 : Int32) : Int32 × XS := ((f_X3_act X x1 (1 : Int32)).1, (f_X3_act X x1 (1 : Int32)).2)
set_option maxHeartbeats 4000000 in
set_option maxRecDepth 100000 in
theorem c_X3_leave (l : Launch) (D : va_G) (cI cO : ClassId) (tF : Nat) (ad : Nat → Nat) (X : XS) (x1 : Int32) (hn : (T_count (X_now X)).toInt ≤ 6) : Ct l yX3_leave wsX3_leave ({ frames := 6, cells := 0, slots := 0, locals := 137 }) D cI cO tF [.ref (ad 0), .int x1] (wX ad cI cO X) (some (.int ((f_X3_leave X x1).1))) (wX ad cI cO ((f_X3_leave X x1).2)) := by
  refine Ct.of (cc := cX3_leave) (maxL := 2) (ret := (some .int)) (own := RX3) (by decide) rfl rfl (Nat.le_of_ble_eq_true rfl) ?_
  intro p e s m args below meth c A ls B hP hD hS hl
  obtain ⟨hx, hb, hret, hml, hts, hown, hlocks, hE, hA⟩ := id B
  have hK := hE.1
  have hl : lv_has ls 2 [(0, .ref (ad 0)), (1, .int x1)] := hl
  refine lv_aload_n hx hb dX3_leave_0 rfl (lv_at hl 0 rfl) ?_
  refine lv_iload_n hx hb dX3_leave_1 rfl (lv_at hl 1 rfl) ?_
  refine lv_iconst (v := (1 : Int32)) hx hb dX3_leave_2 (by decide) ?_
  refine kc_V (As := [.int x1, .int (1 : Int32)]) (rest := []) B (c_X3_act l D cI cO tF ad X x1 (1 : Int32) (hn)) (cwV 2 hts gX3_leave_X3_act rfl rfl rfl (by decide +kernel) ⟨Nat.le_of_ble_eq_true rfl, Nat.le_of_ble_eq_true rfl⟩) hP hD hS [0, 1, 2, 3, 4, 5, 6, 7, 8, 9, 10, 11, 12, 13, 14, 15, 16, 17, 18, 19, 20, 21] wX_subA (by decide) (w' := wX ad cI cO ((f_X3_act X x1 (1 : Int32)).2)) (wX_setA _) (wX_fst _) 0 3 rfl rfl rfl rfl hl.1 rfl (Nat.le_of_ble_eq_true rfl) dX3_leave_3 ⟨Nat.zero_le _, Nat.zero_le _⟩ (fun H locs hP hD hS => ?_)
  have hD : va_D A (wX ad cI cO ((f_X3_act X x1 (1 : Int32)).2)) := hD
  have hF : f_X3_leave X x1 = ((f_X3_act X x1 (1 : Int32)).1, (f_X3_act X x1 (1 : Int32)).2) := by rw [f_X3_leave]
  rw [hF]
  exact kr_i B hP hS rfl rfl dX3_leave_6
def f_X3_come (X : XS) (x1 : Int32) : Int32 × XS := ((f_X3_act X x1 (2 : Int32)).1, (f_X3_act X x1 (2 : Int32)).2)
set_option maxHeartbeats 4000000 in
set_option maxRecDepth 100000 in
theorem c_X3_come (l : Launch) (D : va_G) (cI cO : ClassId) (tF : Nat) (ad : Nat → Nat) (X : XS) (x1 : Int32) (hn : (T_count (X_now X)).toInt ≤ 6) : Ct l yX3_come wsX3_come ({ frames := 6, cells := 0, slots := 0, locals := 137 }) D cI cO tF [.ref (ad 0), .int x1] (wX ad cI cO X) (some (.int ((f_X3_come X x1).1))) (wX ad cI cO ((f_X3_come X x1).2)) := by
  refine Ct.of (cc := cX3_come) (maxL := 2) (ret := (some .int)) (own := RX3) (by decide) rfl rfl (Nat.le_of_ble_eq_true rfl) ?_
  intro p e s m args below meth c A ls B hP hD hS hl
  obtain ⟨hx, hb, hret, hml, hts, hown, hlocks, hE, hA⟩ := id B
  have hK := hE.1
  have hl : lv_has ls 2 [(0, .ref (ad 0)), (1, .int x1)] := hl
  refine lv_aload_n hx hb dX3_come_0 rfl (lv_at hl 0 rfl) ?_
  refine lv_iload_n hx hb dX3_come_1 rfl (lv_at hl 1 rfl) ?_
  refine lv_iconst (v := (2 : Int32)) hx hb dX3_come_2 (by decide) ?_
  refine kc_V (As := [.int x1, .int (2 : Int32)]) (rest := []) B (c_X3_act l D cI cO tF ad X x1 (2 : Int32) (hn)) (cwV 2 hts gX3_come_X3_act rfl rfl rfl (by decide +kernel) ⟨Nat.le_of_ble_eq_true rfl, Nat.le_of_ble_eq_true rfl⟩) hP hD hS [0, 1, 2, 3, 4, 5, 6, 7, 8, 9, 10, 11, 12, 13, 14, 15, 16, 17, 18, 19, 20, 21] wX_subA (by decide) (w' := wX ad cI cO ((f_X3_act X x1 (2 : Int32)).2)) (wX_setA _) (wX_fst _) 0 3 rfl rfl rfl rfl hl.1 rfl (Nat.le_of_ble_eq_true rfl) dX3_come_3 ⟨Nat.zero_le _, Nat.zero_le _⟩ (fun H locs hP hD hS => ?_)
  have hD : va_D A (wX ad cI cO ((f_X3_act X x1 (2 : Int32)).2)) := hD
  have hF : f_X3_come X x1 = ((f_X3_act X x1 (2 : Int32)).1, (f_X3_act X x1 (2 : Int32)).2) := by rw [f_X3_come]
  rw [hF]
  exact kr_i B hP hS rfl rfl dX3_come_6
def f_X3_gather (X : XS) (x1 : Int32) : Int32 × XS := ((f_X3_act X x1 (3 : Int32)).1, (f_X3_act X x1 (3 : Int32)).2)
set_option maxHeartbeats 4000000 in
set_option maxRecDepth 100000 in
theorem c_X3_gather (l : Launch) (D : va_G) (cI cO : ClassId) (tF : Nat) (ad : Nat → Nat) (X : XS) (x1 : Int32) (hn : (T_count (X_now X)).toInt ≤ 6) : Ct l yX3_gather wsX3_gather ({ frames := 6, cells := 0, slots := 0, locals := 137 }) D cI cO tF [.ref (ad 0), .int x1] (wX ad cI cO X) (some (.int ((f_X3_gather X x1).1))) (wX ad cI cO ((f_X3_gather X x1).2)) := by
  refine Ct.of (cc := cX3_gather) (maxL := 2) (ret := (some .int)) (own := RX3) (by decide) rfl rfl (Nat.le_of_ble_eq_true rfl) ?_
  intro p e s m args below meth c A ls B hP hD hS hl
  obtain ⟨hx, hb, hret, hml, hts, hown, hlocks, hE, hA⟩ := id B
  have hK := hE.1
  have hl : lv_has ls 2 [(0, .ref (ad 0)), (1, .int x1)] := hl
  refine lv_aload_n hx hb dX3_gather_0 rfl (lv_at hl 0 rfl) ?_
  refine lv_iload_n hx hb dX3_gather_1 rfl (lv_at hl 1 rfl) ?_
  refine lv_iconst (v := (3 : Int32)) hx hb dX3_gather_2 (by decide) ?_
  refine kc_V (As := [.int x1, .int (3 : Int32)]) (rest := []) B (c_X3_act l D cI cO tF ad X x1 (3 : Int32) (hn)) (cwV 2 hts gX3_gather_X3_act rfl rfl rfl (by decide +kernel) ⟨Nat.le_of_ble_eq_true rfl, Nat.le_of_ble_eq_true rfl⟩) hP hD hS [0, 1, 2, 3, 4, 5, 6, 7, 8, 9, 10, 11, 12, 13, 14, 15, 16, 17, 18, 19, 20, 21] wX_subA (by decide) (w' := wX ad cI cO ((f_X3_act X x1 (3 : Int32)).2)) (wX_setA _) (wX_fst _) 0 3 rfl rfl rfl rfl hl.1 rfl (Nat.le_of_ble_eq_true rfl) dX3_gather_3 ⟨Nat.zero_le _, Nat.zero_le _⟩ (fun H locs hP hD hS => ?_)
  have hD : va_D A (wX ad cI cO ((f_X3_act X x1 (3 : Int32)).2)) := hD
  have hF : f_X3_gather X x1 = ((f_X3_act X x1 (3 : Int32)).1, (f_X3_act X x1 (3 : Int32)).2) := by rw [f_X3_gather]
  rw [hF]
  exact kr_i B hP hS rfl rfl dX3_gather_6
def f_X3_open (X : XS) (x1 : Int32) : Int32 × XS := ((f_X3_act X x1 (4 : Int32)).1, (f_X3_act X x1 (4 : Int32)).2)
set_option maxHeartbeats 4000000 in
set_option maxRecDepth 100000 in
theorem c_X3_open (l : Launch) (D : va_G) (cI cO : ClassId) (tF : Nat) (ad : Nat → Nat) (X : XS) (x1 : Int32) (hn : (T_count (X_now X)).toInt ≤ 6) : Ct l yX3_open wsX3_open ({ frames := 6, cells := 0, slots := 0, locals := 137 }) D cI cO tF [.ref (ad 0), .int x1] (wX ad cI cO X) (some (.int ((f_X3_open X x1).1))) (wX ad cI cO ((f_X3_open X x1).2)) := by
  refine Ct.of (cc := cX3_open) (maxL := 2) (ret := (some .int)) (own := RX3) (by decide) rfl rfl (Nat.le_of_ble_eq_true rfl) ?_
  intro p e s m args below meth c A ls B hP hD hS hl
  obtain ⟨hx, hb, hret, hml, hts, hown, hlocks, hE, hA⟩ := id B
  have hK := hE.1
  have hl : lv_has ls 2 [(0, .ref (ad 0)), (1, .int x1)] := hl
  refine lv_aload_n hx hb dX3_open_0 rfl (lv_at hl 0 rfl) ?_
  refine lv_iload_n hx hb dX3_open_1 rfl (lv_at hl 1 rfl) ?_
  refine lv_iconst (v := (4 : Int32)) hx hb dX3_open_2 (by decide) ?_
  refine kc_V (As := [.int x1, .int (4 : Int32)]) (rest := []) B (c_X3_act l D cI cO tF ad X x1 (4 : Int32) (hn)) (cwV 2 hts gX3_open_X3_act rfl rfl rfl (by decide +kernel) ⟨Nat.le_of_ble_eq_true rfl, Nat.le_of_ble_eq_true rfl⟩) hP hD hS [0, 1, 2, 3, 4, 5, 6, 7, 8, 9, 10, 11, 12, 13, 14, 15, 16, 17, 18, 19, 20, 21] wX_subA (by decide) (w' := wX ad cI cO ((f_X3_act X x1 (4 : Int32)).2)) (wX_setA _) (wX_fst _) 0 3 rfl rfl rfl rfl hl.1 rfl (Nat.le_of_ble_eq_true rfl) dX3_open_3 ⟨Nat.zero_le _, Nat.zero_le _⟩ (fun H locs hP hD hS => ?_)
  have hD : va_D A (wX ad cI cO ((f_X3_act X x1 (4 : Int32)).2)) := hD
  have hF : f_X3_open X x1 = ((f_X3_act X x1 (4 : Int32)).1, (f_X3_act X x1 (4 : Int32)).2) := by rw [f_X3_open]
  rw [hF]
  exact kr_i B hP hS rfl rfl dX3_open_6
def f_X3_pack (X : XS) (x1 : Int32) (x2 : Int32) : Int32 × XS := (if (f_X2_has (X_now X) x1) = 0 then ((-1 : Int32), X) else (if x2 < (1 : Int32) then ((-2 : Int32), X) else (if x2 ≤ (99 : Int32) then (if x2 ≤ ((T_parts (X_now X)) x1.toNatClampNeg) then (((T_tin (X_now X)) + x2), (X_now' X (T_tin' (T_parts' (X_now X) (upd (T_parts (X_now X)) x1.toNatClampNeg (((T_parts (X_now X)) x1.toNatClampNeg) - x2))) ((T_tin (X_now X)) + x2)))) else ((-3 : Int32), X)) else ((-2 : Int32), X))))
theorem iw_X3_pack_2 : ∀ w ∈ wsX20, w ∈ wsX3_pack := fun _ h => List.mem_cons_of_mem _ (List.mem_append_right _ h)
theorem iw_X3_pack_3 : ∀ w ∈ wsX30, w ∈ wsX3_pack := fun _ h => List.mem_cons_of_mem _ (List.mem_append_left _ (List.mem_append_right _ h))
set_option maxHeartbeats 4000000 in
set_option maxRecDepth 100000 in
theorem c_X3_pack (l : Launch) (D : va_G) (cI cO : ClassId) (tF : Nat) (ad : Nat → Nat) (X : XS) (x1 : Int32) (x2 : Int32) (hn : (T_count (X_now X)).toInt ≤ 6) : Ct l yX3_pack wsX3_pack ({ frames := 1, cells := 0, slots := 0, locals := 21 }) D cI cO tF [.ref (ad 0), .int x1, .int x2] (wX ad cI cO X) (some (.int ((f_X3_pack X x1 x2).1))) (wX ad cI cO ((f_X3_pack X x1 x2).2)) := by
  refine Ct.of (cc := cX3_pack) (maxL := 3) (ret := (some .int)) (own := RX3) (by decide) rfl rfl (Nat.le_of_ble_eq_true rfl) ?_
  intro p e s m args below meth c A ls B hP hD hS hl
  obtain ⟨hx, hb, hret, hml, hts, hown, hlocks, hE, hA⟩ := id B
  have hK := hE.1
  have hl : lv_has ls 3 [(0, .ref (ad 0)), (1, .int x1), (2, .int x2)] := hl
  refine lv_aload_n hx hb dX3_pack_0 rfl (lv_at hl 0 rfl) ?_
  refine va_get (D := D) (ci := 3) (v := .ref (ad 2)) (C := RX3) (T := TX3) (N := 7) hx hb hts iw_X3_pack_3 hown hK hP 0 rfl rfl 1 (by decide) (hts (.fieldLink RX3 20 "TownLisp" "now" "LTownLisp$Town;") (by decide +kernel)) (fun _ h9 => h9) rfl dX3_pack_1 ?_
  refine lv_iload_n hx hb dX3_pack_4 rfl (lv_at hl 1 rfl) ?_
  refine kc_V (As := [.int x1]) (rest := []) B (c_X2_has l D cI cO tF (ad 2) (ad 3) (ad 4) (ad 5) (X_now X) x1 ) (cwV 1 hts gX3_pack_X2_has rfl rfl rfl (by decide +kernel) ⟨Nat.le_of_ble_eq_true rfl, Nat.le_of_ble_eq_true rfl⟩) hP hD hS [2, 3, 4, 5] wX_subN (by decide) (w' := wX ad cI cO X) (wX_sameN) rfl 2 2 rfl rfl rfl rfl hl.1 rfl (Nat.le_of_ble_eq_true rfl) dX3_pack_5 ⟨Nat.zero_le _, Nat.zero_le _⟩ (fun H locs hP hD hS => ?_)
  have hD : va_D A (wX ad cI cO X) := hD
  refine lv_if_ne (tgt := 13) hx hb dX3_pack_8 (by decide) (fun c_8 => ?_) (fun c_8 => ?_)
  · refine lv_iload_n hx hb dX3_pack_13 rfl (lv_at hl 2 rfl) ?_
    refine lv_iconst (v := (1 : Int32)) hx hb dX3_pack_14 (by decide) ?_
    refine lv_icmp_lt (tgt := 24) hx hb dX3_pack_15 (by decide) (fun c_15 => ?_) (fun c_15 => ?_)
    · refine lv_bipush (v := (-2 : Int32)) hx hb dX3_pack_24 (by decide) ?_
      have hF : f_X3_pack X x1 x2 = ((-2 : Int32), X) := by rw [f_X3_pack, if_neg c_8, if_pos c_15]
      rw [hF]
      exact kr_i B hP hS rfl rfl dX3_pack_26
    · refine lv_iload_n hx hb dX3_pack_18 rfl (lv_at hl 2 rfl) ?_
      refine lv_bipush (v := (99 : Int32)) hx hb dX3_pack_19 (by decide) ?_
      refine lv_icmp_le (tgt := 27) hx hb dX3_pack_21 (by decide) (fun c_21 => ?_) (fun c_21 => ?_)
      · refine lv_aload_n hx hb dX3_pack_27 rfl (lv_at hl 0 rfl) ?_
        refine va_get (D := D) (ci := 3) (v := .ref (ad 2)) (C := RX3) (T := TX3) (N := 7) hx hb hts iw_X3_pack_3 hown hK hP 0 rfl rfl 1 (by decide) (hts (.fieldLink RX3 20 "TownLisp" "now" "LTownLisp$Town;") (by decide +kernel)) (fun _ h9 => h9) rfl dX3_pack_28 ?_
        refine va_get (D := D) (ci := 2) (v := .ref (ad 4)) (C := RX2) (T := TX2) (N := 6) hx hb hts iw_X3_pack_2 hown hK hP 2 rfl rfl 1 (by decide) (hts (.fieldLink RX3 77 "TownLisp$Town" "parts" "[I") (by decide +kernel)) (fun _ h9 => h9) rfl dX3_pack_31 ?_
        refine lv_iload_n hx hb dX3_pack_34 rfl (lv_at hl 1 rfl) ?_
        refine va_iald hx hb hK hP 4 0 rfl rfl (has_in hn c_8) dX3_pack_35 ?_
        refine lv_iload_n hx hb dX3_pack_36 rfl (lv_at hl 2 rfl) ?_
        refine lv_icmp_ge (tgt := 43) hx hb dX3_pack_37 (by decide) (fun c_37 => ?_) (fun c_37 => ?_)
        · refine lv_aload_n hx hb dX3_pack_43 rfl (lv_at hl 0 rfl) ?_
          refine va_get (D := D) (ci := 3) (v := .ref (ad 2)) (C := RX3) (T := TX3) (N := 7) hx hb hts iw_X3_pack_3 hown hK hP 0 rfl rfl 1 (by decide) (hts (.fieldLink RX3 20 "TownLisp" "now" "LTownLisp$Town;") (by decide +kernel)) (fun _ h9 => h9) rfl dX3_pack_44 ?_
          refine va_get (D := D) (ci := 2) (v := .ref (ad 4)) (C := RX2) (T := TX2) (N := 6) hx hb hts iw_X3_pack_2 hown hK hP 2 rfl rfl 1 (by decide) (hts (.fieldLink RX3 77 "TownLisp$Town" "parts" "[I") (by decide +kernel)) (fun _ h9 => h9) rfl dX3_pack_47 ?_
          refine lv_iload_n hx hb dX3_pack_50 rfl (lv_at hl 1 rfl) ?_
          refine lv_dup2_11 hx hb dX3_pack_51 rfl rfl ?_
          refine va_iald hx hb hK hP 4 0 rfl rfl (has_in hn c_8) dX3_pack_52 ?_
          refine lv_iload_n hx hb dX3_pack_53 rfl (lv_at hl 2 rfl) ?_
          refine lv_isub hx hb dX3_pack_54 ?_
          refine va_iast hx hb hK hP hD hS 4 0 rfl rfl (has_in hn c_8) dX3_pack_55 (fun H locs hP hD hS => ?_)
          have hP : va_P D vwCl (wX ad cI cO (X_now' X (T_parts' (X_now X) (upd (T_parts (X_now X)) x1.toNatClampNeg (((T_parts (X_now X)) x1.toNatClampNeg) - x2))))) H := hP
          have hD : va_D A (wX ad cI cO (X_now' X (T_parts' (X_now X) (upd (T_parts (X_now X)) x1.toNatClampNeg (((T_parts (X_now X)) x1.toNatClampNeg) - x2))))) := hD
          refine lv_aload_n hx hb dX3_pack_56 rfl (lv_at hl 0 rfl) ?_
          refine va_get (D := D) (ci := 3) (v := .ref (ad 2)) (C := RX3) (T := TX3) (N := 7) hx hb hts iw_X3_pack_3 hown hK hP 0 rfl rfl 1 (by decide) (hts (.fieldLink RX3 20 "TownLisp" "now" "LTownLisp$Town;") (by decide +kernel)) (fun _ h9 => h9) rfl dX3_pack_57 ?_
          refine lv_dup hx hb dX3_pack_60 rfl ?_
          refine va_get (D := D) (ci := 2) (v := .int (T_tin (X_now X))) (C := RX2) (T := TX2) (N := 6) hx hb hts iw_X3_pack_2 hown hK hP 2 rfl rfl 5 (by decide) (hts (.fieldLink RX3 103 "TownLisp$Town" "tin" "I") (by decide +kernel)) (fun _ h9 => h9) rfl dX3_pack_61 ?_
          refine lv_iload_n hx hb dX3_pack_64 rfl (lv_at hl 2 rfl) ?_
          refine lv_iadd hx hb dX3_pack_65 ?_
          refine va_put (D := D) (ci := 2) (v := .int ((T_tin (X_now X)) + x2)) (ty := .int) (C := RX2) (T := TX2) (N := 6) hx hb hts iw_X3_pack_2 tyX2 tyX2_ok nmX2 hown hK hP hD hS 2 rfl rfl 5 (by decide) (hts (.fieldLink RX3 103 "TownLisp$Town" "tin" "I") (by decide +kernel)) (fun _ h9 => h9) rfl (by decide +kernel) rfl rfl (Nat.le_of_ble_eq_true rfl) dX3_pack_66 (fun H locs hP hD hS => ?_)
          have hP : va_P D vwCl (wX ad cI cO (X_now' X (T_tin' (T_parts' (X_now X) (upd (T_parts (X_now X)) x1.toNatClampNeg (((T_parts (X_now X)) x1.toNatClampNeg) - x2))) ((T_tin (X_now X)) + x2)))) H := hP
          have hD : va_D A (wX ad cI cO (X_now' X (T_tin' (T_parts' (X_now X) (upd (T_parts (X_now X)) x1.toNatClampNeg (((T_parts (X_now X)) x1.toNatClampNeg) - x2))) ((T_tin (X_now X)) + x2)))) := hD
          refine lv_aload_n hx hb dX3_pack_69 rfl (lv_at hl 0 rfl) ?_
          refine va_get (D := D) (ci := 3) (v := .ref (ad 2)) (C := RX3) (T := TX3) (N := 7) hx hb hts iw_X3_pack_3 hown hK hP 0 rfl rfl 1 (by decide) (hts (.fieldLink RX3 20 "TownLisp" "now" "LTownLisp$Town;") (by decide +kernel)) (fun _ h9 => h9) rfl dX3_pack_70 ?_
          refine va_get (D := D) (ci := 2) (v := .int ((T_tin (X_now X)) + x2)) (C := RX2) (T := TX2) (N := 6) hx hb hts iw_X3_pack_2 hown hK hP 2 rfl rfl 5 (by decide) (hts (.fieldLink RX3 103 "TownLisp$Town" "tin" "I") (by decide +kernel)) (fun _ h9 => h9) rfl dX3_pack_73 ?_
          have hF : f_X3_pack X x1 x2 = (((T_tin (X_now X)) + x2), (X_now' X (T_tin' (T_parts' (X_now X) (upd (T_parts (X_now X)) x1.toNatClampNeg (((T_parts (X_now X)) x1.toNatClampNeg) - x2))) ((T_tin (X_now X)) + x2)))) := by rw [f_X3_pack, if_neg c_8, if_neg c_15, if_pos c_21, if_pos c_37]
          rw [hF]
          exact kr_i B hP hS rfl rfl dX3_pack_76
        · refine lv_bipush (v := (-3 : Int32)) hx hb dX3_pack_40 (by decide) ?_
          have hF : f_X3_pack X x1 x2 = ((-3 : Int32), X) := by rw [f_X3_pack, if_neg c_8, if_neg c_15, if_pos c_21, if_neg c_37]
          rw [hF]
          exact kr_i B hP hS rfl rfl dX3_pack_42
      · refine lv_bipush (v := (-2 : Int32)) hx hb dX3_pack_24 (by decide) ?_
        have hF : f_X3_pack X x1 x2 = ((-2 : Int32), X) := by rw [f_X3_pack, if_neg c_8, if_neg c_15, if_neg c_21]
        rw [hF]
        exact kr_i B hP hS rfl rfl dX3_pack_26
  · refine lv_iconst (v := (-1 : Int32)) hx hb dX3_pack_11 (by decide) ?_
    have hF : f_X3_pack X x1 x2 = ((-1 : Int32), X) := by rw [f_X3_pack, if_pos c_8]
    rw [hF]
    exact kr_i B hP hS rfl rfl dX3_pack_12
def f_X3_faulty (X : XS) (x1 : Int32) : Int32 × XS := (((-10 : Int32) - x1), (X_latestFault' X x1))
theorem iw_X3_faulty_3 : ∀ w ∈ wsX30, w ∈ wsX3_faulty := fun _ h => List.mem_cons_of_mem _ (List.mem_append_right _ h)
set_option maxHeartbeats 4000000 in
set_option maxRecDepth 100000 in
theorem c_X3_faulty (l : Launch) (D : va_G) (cI cO : ClassId) (tF : Nat) (ad : Nat → Nat) (X : XS) (x1 : Int32) : Ct l yX3_faulty wsX3_faulty ({ frames := 0, cells := 0, slots := 0, locals := 0 }) D cI cO tF [.ref (ad 0), .int x1] (wX ad cI cO X) (some (.int ((f_X3_faulty X x1).1))) (wX ad cI cO ((f_X3_faulty X x1).2)) := by
  refine Ct.of (cc := cX3_faulty) (maxL := 2) (ret := (some .int)) (own := RX3) (by decide) rfl rfl (Nat.le_of_ble_eq_true rfl) ?_
  intro p e s m args below meth c A ls B hP hD hS hl
  obtain ⟨hx, hb, hret, hml, hts, hown, hlocks, hE, hA⟩ := id B
  have hK := hE.1
  have hl : lv_has ls 2 [(0, .ref (ad 0)), (1, .int x1)] := hl
  refine lv_aload_n hx hb dX3_faulty_0 rfl (lv_at hl 0 rfl) ?_
  refine lv_iload_n hx hb dX3_faulty_1 rfl (lv_at hl 1 rfl) ?_
  refine va_put (D := D) (ci := 3) (v := .int x1) (ty := .int) (C := RX3) (T := TX3) (N := 7) hx hb hts iw_X3_faulty_3 tyX3 tyX3_ok nmX3 hown hK hP hD hS 0 rfl rfl 6 (by decide) (hts (.fieldLink RX3 35 "TownLisp" "latestFault" "I") (by decide +kernel)) (fun _ h9 => h9) rfl (by decide +kernel) rfl rfl (Nat.le_of_ble_eq_true rfl) dX3_faulty_2 (fun H locs hP hD hS => ?_)
  have hP : va_P D vwCl (wX ad cI cO (X_latestFault' X x1)) H := hP
  have hD : va_D A (wX ad cI cO (X_latestFault' X x1)) := hD
  refine lv_bipush (v := (-10 : Int32)) hx hb dX3_faulty_5 (by decide) ?_
  refine lv_iload_n hx hb dX3_faulty_7 rfl (lv_at hl 1 rfl) ?_
  refine lv_isub hx hb dX3_faulty_8 ?_
  have hF : f_X3_faulty X x1 = (((-10 : Int32) - x1), (X_latestFault' X x1)) := by rw [f_X3_faulty]
  rw [hF]
  exact kr_i B hP hS rfl rfl dX3_faulty_9
def f_X3_begin (X : XS) (x1 : Int32) : XS := (X_traced' X (((31 : Int32) * (X_traced X)) + x1))
theorem iw_X3_begin_3 : ∀ w ∈ wsX30, w ∈ wsX3_begin := fun _ h => List.mem_cons_of_mem _ (List.mem_append_right _ h)
set_option maxHeartbeats 4000000 in
set_option maxRecDepth 100000 in
theorem c_X3_begin (l : Launch) (D : va_G) (cI cO : ClassId) (tF : Nat) (ad : Nat → Nat) (X : XS) (x1 : Int32) : Ct l yX3_begin wsX3_begin ({ frames := 0, cells := 0, slots := 0, locals := 0 }) D cI cO tF [.ref (ad 0), .int x1] (wX ad cI cO X) none (wX ad cI cO (f_X3_begin X x1)) := by
  refine Ct.of (cc := cX3_begin) (maxL := 2) (ret := none) (own := RX3) (by decide) rfl rfl (Nat.le_of_ble_eq_true rfl) ?_
  intro p e s m args below meth c A ls B hP hD hS hl
  obtain ⟨hx, hb, hret, hml, hts, hown, hlocks, hE, hA⟩ := id B
  have hK := hE.1
  have hl : lv_has ls 2 [(0, .ref (ad 0)), (1, .int x1)] := hl
  refine lv_aload_n hx hb dX3_begin_0 rfl (lv_at hl 0 rfl) ?_
  refine lv_bipush (v := (31 : Int32)) hx hb dX3_begin_1 (by decide) ?_
  refine lv_aload_n hx hb dX3_begin_3 rfl (lv_at hl 0 rfl) ?_
  refine va_get (D := D) (ci := 3) (v := .int (X_traced X)) (C := RX3) (T := TX3) (N := 7) hx hb hts iw_X3_begin_3 hown hK hP 0 rfl rfl 5 (by decide) (hts (.fieldLink RX3 209 "TownLisp" "traced" "I") (by decide +kernel)) (fun _ h9 => h9) rfl dX3_begin_4 ?_
  refine lv_imul hx hb dX3_begin_7 ?_
  refine lv_iload_n hx hb dX3_begin_8 rfl (lv_at hl 1 rfl) ?_
  refine lv_iadd hx hb dX3_begin_9 ?_
  refine va_put (D := D) (ci := 3) (v := .int (((31 : Int32) * (X_traced X)) + x1)) (ty := .int) (C := RX3) (T := TX3) (N := 7) hx hb hts iw_X3_begin_3 tyX3 tyX3_ok nmX3 hown hK hP hD hS 0 rfl rfl 5 (by decide) (hts (.fieldLink RX3 209 "TownLisp" "traced" "I") (by decide +kernel)) (fun _ h9 => h9) rfl (by decide +kernel) rfl rfl (Nat.le_of_ble_eq_true rfl) dX3_begin_10 (fun H locs hP hD hS => ?_)
  have hP : va_P D vwCl (wX ad cI cO (X_traced' X (((31 : Int32) * (X_traced X)) + x1))) H := hP
  have hD : va_D A (wX ad cI cO (X_traced' X (((31 : Int32) * (X_traced X)) + x1))) := hD
  have hF : f_X3_begin X x1 = (X_traced' X (((31 : Int32) * (X_traced X)) + x1)) := by rw [f_X3_begin]
  rw [hF]
  exact kr_v B hP hS rfl dX3_begin_13
def f_X3_grownTells (X : XS) (x1 : Int32) : Int32 × XS := (((T_thick (X_now (f_X3_begin X (1 : Int32)))) x1.toNatClampNeg), (f_X3_begin X (1 : Int32)))
theorem iw_X3_grownTells_2 : ∀ w ∈ wsX20, w ∈ wsX3_grownTells := fun _ h => List.mem_cons_of_mem _ (List.mem_append_right _ h)
theorem iw_X3_grownTells_3 : ∀ w ∈ wsX30, w ∈ wsX3_grownTells := fun _ h => List.mem_cons_of_mem _ (List.mem_append_left _ (List.mem_append_right _ h))
set_option maxHeartbeats 4000000 in
set_option maxRecDepth 100000 in
theorem c_X3_grownTells (l : Launch) (D : va_G) (cI cO : ClassId) (tF : Nat) (ad : Nat → Nat) (X : XS) (x1 : Int32) (hp : vp_in x1 6) : Ct l yX3_grownTells wsX3_grownTells ({ frames := 1, cells := 0, slots := 0, locals := 21 }) D cI cO tF [.ref (ad 0), .int x1] (wX ad cI cO X) (some (.int ((f_X3_grownTells X x1).1))) (wX ad cI cO ((f_X3_grownTells X x1).2)) := by
  refine Ct.of (cc := cX3_grownTells) (maxL := 2) (ret := (some .int)) (own := RX3) (by decide) rfl rfl (Nat.le_of_ble_eq_true rfl) ?_
  intro p e s m args below meth c A ls B hP hD hS hl
  obtain ⟨hx, hb, hret, hml, hts, hown, hlocks, hE, hA⟩ := id B
  have hK := hE.1
  have hl : lv_has ls 2 [(0, .ref (ad 0)), (1, .int x1)] := hl
  refine lv_aload_n hx hb dX3_grownTells_0 rfl (lv_at hl 0 rfl) ?_
  refine lv_iconst (v := (1 : Int32)) hx hb dX3_grownTells_1 (by decide) ?_
  refine kc_V (As := [.int (1 : Int32)]) (rest := []) B (c_X3_begin l D cI cO tF ad X (1 : Int32) ) (cwV 1 hts gX3_grownTells_X3_begin rfl rfl rfl (by decide +kernel) ⟨Nat.le_of_ble_eq_true rfl, Nat.le_of_ble_eq_true rfl⟩) hP hD hS [0, 1, 2, 3, 4, 5, 6, 7, 8, 9, 10, 11, 12, 13, 14, 15, 16, 17, 18, 19, 20, 21] wX_subA (by decide) (w' := wX ad cI cO (f_X3_begin X (1 : Int32))) (wX_setA _) (wX_fst _) 0 3 rfl rfl rfl rfl hl.1 rfl (Nat.le_of_ble_eq_true rfl) dX3_grownTells_2 ⟨Nat.zero_le _, Nat.zero_le _⟩ (fun H locs hP hD hS => ?_)
  have hD : va_D A (wX ad cI cO (f_X3_begin X (1 : Int32))) := hD
  refine lv_aload_n hx hb dX3_grownTells_5 rfl (lv_at hl 0 rfl) ?_
  refine va_get (D := D) (ci := 3) (v := .ref (ad 2)) (C := RX3) (T := TX3) (N := 7) hx hb hts iw_X3_grownTells_3 hown hK hP 0 rfl rfl 1 (by decide) (hts (.fieldLink RX3 20 "TownLisp" "now" "LTownLisp$Town;") (by decide +kernel)) (fun _ h9 => h9) rfl dX3_grownTells_6 ?_
  refine va_get (D := D) (ci := 2) (v := .ref (ad 5)) (C := RX2) (T := TX2) (N := 6) hx hb hts iw_X3_grownTells_2 hown hK hP 2 rfl rfl 2 (by decide) (hts (.fieldLink RX3 80 "TownLisp$Town" "thick" "[I") (by decide +kernel)) (fun _ h9 => h9) rfl dX3_grownTells_9 ?_
  refine lv_iload_n hx hb dX3_grownTells_12 rfl (lv_at hl 1 rfl) ?_
  refine va_iald hx hb hK hP 5 0 rfl rfl (hp) dX3_grownTells_13 ?_
  have hF : f_X3_grownTells X x1 = (((T_thick (X_now (f_X3_begin X (1 : Int32)))) x1.toNatClampNeg), (f_X3_begin X (1 : Int32))) := by rw [f_X3_grownTells]
  rw [hF]
  exact kr_i B hP hS rfl rfl dX3_grownTells_14
def f_X3_shyTells (X : XS) (x1 : Int32) : Int32 × XS := (((f_X3_grownTells (f_X3_begin X (2 : Int32)) x1).1 + (100 : Int32)), (f_X3_grownTells (f_X3_begin X (2 : Int32)) x1).2)
set_option maxHeartbeats 4000000 in
set_option maxRecDepth 100000 in
theorem c_X3_shyTells (l : Launch) (D : va_G) (cI cO : ClassId) (tF : Nat) (ad : Nat → Nat) (X : XS) (x1 : Int32) (hp : vp_in x1 6) : Ct l yX3_shyTells wsX3_shyTells ({ frames := 2, cells := 0, slots := 0, locals := 42 }) D cI cO tF [.ref (ad 0), .int x1] (wX ad cI cO X) (some (.int ((f_X3_shyTells X x1).1))) (wX ad cI cO ((f_X3_shyTells X x1).2)) := by
  refine Ct.of (cc := cX3_shyTells) (maxL := 2) (ret := (some .int)) (own := RX3) (by decide) rfl rfl (Nat.le_of_ble_eq_true rfl) ?_
  intro p e s m args below meth c A ls B hP hD hS hl
  obtain ⟨hx, hb, hret, hml, hts, hown, hlocks, hE, hA⟩ := id B
  have hK := hE.1
  have hl : lv_has ls 2 [(0, .ref (ad 0)), (1, .int x1)] := hl
  refine lv_aload_n hx hb dX3_shyTells_0 rfl (lv_at hl 0 rfl) ?_
  refine lv_iconst (v := (2 : Int32)) hx hb dX3_shyTells_1 (by decide) ?_
  refine kc_V (As := [.int (2 : Int32)]) (rest := []) B (c_X3_begin l D cI cO tF ad X (2 : Int32) ) (cwV 1 hts gX3_shyTells_X3_begin rfl rfl rfl (by decide +kernel) ⟨Nat.le_of_ble_eq_true rfl, Nat.le_of_ble_eq_true rfl⟩) hP hD hS [0, 1, 2, 3, 4, 5, 6, 7, 8, 9, 10, 11, 12, 13, 14, 15, 16, 17, 18, 19, 20, 21] wX_subA (by decide) (w' := wX ad cI cO (f_X3_begin X (2 : Int32))) (wX_setA _) (wX_fst _) 0 3 rfl rfl rfl rfl hl.1 rfl (Nat.le_of_ble_eq_true rfl) dX3_shyTells_2 ⟨Nat.zero_le _, Nat.zero_le _⟩ (fun H locs hP hD hS => ?_)
  have hD : va_D A (wX ad cI cO (f_X3_begin X (2 : Int32))) := hD
  refine lv_aload_n hx hb dX3_shyTells_5 rfl (lv_at hl 0 rfl) ?_
  refine lv_iload_n hx hb dX3_shyTells_6 rfl (lv_at hl 1 rfl) ?_
  refine kc_V (As := [.int x1]) (rest := []) B (c_X3_grownTells l D cI cO tF ad (f_X3_begin X (2 : Int32)) x1 (hp)) (cwV 1 hts gX3_shyTells_X3_grownTells rfl rfl rfl (by decide +kernel) ⟨Nat.le_of_ble_eq_true rfl, Nat.le_of_ble_eq_true rfl⟩) hP hD hS [0, 1, 2, 3, 4, 5, 6, 7, 8, 9, 10, 11, 12, 13, 14, 15, 16, 17, 18, 19, 20, 21] wX_subA (by decide) (w' := wX ad cI cO ((f_X3_grownTells (f_X3_begin X (2 : Int32)) x1).2)) (wX_setA _) (wX_fst _) 0 3 rfl rfl rfl rfl hl.1 rfl (Nat.le_of_ble_eq_true rfl) dX3_shyTells_7 ⟨Nat.zero_le _, Nat.zero_le _⟩ (fun H locs hP hD hS => ?_)
  have hD : va_D A (wX ad cI cO ((f_X3_grownTells (f_X3_begin X (2 : Int32)) x1).2)) := hD
  refine lv_bipush (v := (100 : Int32)) hx hb dX3_shyTells_10 (by decide) ?_
  refine lv_iadd hx hb dX3_shyTells_12 ?_
  have hF : f_X3_shyTells X x1 = (((f_X3_grownTells (f_X3_begin X (2 : Int32)) x1).1 + (100 : Int32)), (f_X3_grownTells (f_X3_begin X (2 : Int32)) x1).2) := by rw [f_X3_shyTells]
  rw [hF]
  exact kr_i B hP hS rfl rfl dX3_shyTells_13
def f_X3_childTells (X : XS) (x1 : Int32) : Int32 × XS := (((f_X3_shyTells (f_X3_begin X (3 : Int32)) x1).1 + (f_X3_grownTells ((f_X3_shyTells (f_X3_begin X (3 : Int32)) x1).2) x1).1), (f_X3_grownTells ((f_X3_shyTells (f_X3_begin X (3 : Int32)) x1).2) x1).2)
set_option maxHeartbeats 4000000 in
set_option maxRecDepth 100000 in
theorem c_X3_childTells (l : Launch) (D : va_G) (cI cO : ClassId) (tF : Nat) (ad : Nat → Nat) (X : XS) (x1 : Int32) (hp : vp_in x1 6) : Ct l yX3_childTells wsX3_childTells ({ frames := 3, cells := 0, slots := 0, locals := 63 }) D cI cO tF [.ref (ad 0), .int x1] (wX ad cI cO X) (some (.int ((f_X3_childTells X x1).1))) (wX ad cI cO ((f_X3_childTells X x1).2)) := by
  refine Ct.of (cc := cX3_childTells) (maxL := 3) (ret := (some .int)) (own := RX3) (by decide) rfl rfl (Nat.le_of_ble_eq_true rfl) ?_
  intro p e s m args below meth c A ls B hP hD hS hl
  obtain ⟨hx, hb, hret, hml, hts, hown, hlocks, hE, hA⟩ := id B
  have hK := hE.1
  have hl : lv_has ls 3 [(0, .ref (ad 0)), (1, .int x1)] := hl
  refine lv_aload_n hx hb dX3_childTells_0 rfl (lv_at hl 0 rfl) ?_
  refine lv_iconst (v := (3 : Int32)) hx hb dX3_childTells_1 (by decide) ?_
  refine kc_V (As := [.int (3 : Int32)]) (rest := []) B (c_X3_begin l D cI cO tF ad X (3 : Int32) ) (cwV 1 hts gX3_childTells_X3_begin rfl rfl rfl (by decide +kernel) ⟨Nat.le_of_ble_eq_true rfl, Nat.le_of_ble_eq_true rfl⟩) hP hD hS [0, 1, 2, 3, 4, 5, 6, 7, 8, 9, 10, 11, 12, 13, 14, 15, 16, 17, 18, 19, 20, 21] wX_subA (by decide) (w' := wX ad cI cO (f_X3_begin X (3 : Int32))) (wX_setA _) (wX_fst _) 0 3 rfl rfl rfl rfl hl.1 rfl (Nat.le_of_ble_eq_true rfl) dX3_childTells_2 ⟨Nat.zero_le _, Nat.zero_le _⟩ (fun H locs hP hD hS => ?_)
  have hD : va_D A (wX ad cI cO (f_X3_begin X (3 : Int32))) := hD
  refine lv_aload_n hx hb dX3_childTells_5 rfl (lv_at hl 0 rfl) ?_
  refine lv_iload_n hx hb dX3_childTells_6 rfl (lv_at hl 1 rfl) ?_
  refine kc_V (As := [.int x1]) (rest := []) B (c_X3_shyTells l D cI cO tF ad (f_X3_begin X (3 : Int32)) x1 (hp)) (cwV 1 hts gX3_childTells_X3_shyTells rfl rfl rfl (by decide +kernel) ⟨Nat.le_of_ble_eq_true rfl, Nat.le_of_ble_eq_true rfl⟩) hP hD hS [0, 1, 2, 3, 4, 5, 6, 7, 8, 9, 10, 11, 12, 13, 14, 15, 16, 17, 18, 19, 20, 21] wX_subA (by decide) (w' := wX ad cI cO ((f_X3_shyTells (f_X3_begin X (3 : Int32)) x1).2)) (wX_setA _) (wX_fst _) 0 3 rfl rfl rfl rfl hl.1 rfl (Nat.le_of_ble_eq_true rfl) dX3_childTells_7 ⟨Nat.zero_le _, Nat.zero_le _⟩ (fun H locs hP hD hS => ?_)
  have hD : va_D A (wX ad cI cO ((f_X3_shyTells (f_X3_begin X (3 : Int32)) x1).2)) := hD
  refine lv_istore_n (lv' := [(2, .int ((f_X3_shyTells (f_X3_begin X (3 : Int32)) x1).1)), (0, .ref (ad 0)), (1, .int x1)]) hx hb dX3_childTells_10 rfl hl (by decide) rfl (fun ls hl => ?_)
  refine lv_iload_n hx hb dX3_childTells_11 rfl (lv_at hl 0 rfl) ?_
  refine lv_aload_n hx hb dX3_childTells_12 rfl (lv_at hl 1 rfl) ?_
  refine lv_iload_n hx hb dX3_childTells_13 rfl (lv_at hl 2 rfl) ?_
  refine kc_V (As := [.int x1]) (rest := [.int ((f_X3_shyTells (f_X3_begin X (3 : Int32)) x1).1)]) B (c_X3_grownTells l D cI cO tF ad ((f_X3_shyTells (f_X3_begin X (3 : Int32)) x1).2) x1 (hp)) (cwV 1 hts gX3_childTells_X3_grownTells rfl rfl rfl (by decide +kernel) ⟨Nat.le_of_ble_eq_true rfl, Nat.le_of_ble_eq_true rfl⟩) hP hD hS [0, 1, 2, 3, 4, 5, 6, 7, 8, 9, 10, 11, 12, 13, 14, 15, 16, 17, 18, 19, 20, 21] wX_subA (by decide) (w' := wX ad cI cO ((f_X3_grownTells ((f_X3_shyTells (f_X3_begin X (3 : Int32)) x1).2) x1).2)) (wX_setA _) (wX_fst _) 0 3 rfl rfl rfl rfl hl.1 rfl (Nat.le_of_ble_eq_true rfl) dX3_childTells_14 ⟨Nat.zero_le _, Nat.zero_le _⟩ (fun H locs hP hD hS => ?_)
  have hD : va_D A (wX ad cI cO ((f_X3_grownTells ((f_X3_shyTells (f_X3_begin X (3 : Int32)) x1).2) x1).2)) := hD
  refine lv_iadd hx hb dX3_childTells_17 ?_
  have hF : f_X3_childTells X x1 = (((f_X3_shyTells (f_X3_begin X (3 : Int32)) x1).1 + (f_X3_grownTells ((f_X3_shyTells (f_X3_begin X (3 : Int32)) x1).2) x1).1), (f_X3_grownTells ((f_X3_shyTells (f_X3_begin X (3 : Int32)) x1).2) x1).2) := by rw [f_X3_childTells]
  rw [hF]
  exact kr_i B hP hS rfl rfl dX3_childTells_18
def f_X3_lentIsCalled (X : XS) (x1 : Int32) : Int32 × XS := (x1, (f_X3_begin X (4 : Int32)))
set_option maxHeartbeats 4000000 in
set_option maxRecDepth 100000 in
theorem c_X3_lentIsCalled (l : Launch) (D : va_G) (cI cO : ClassId) (tF : Nat) (ad : Nat → Nat) (X : XS) (x1 : Int32) : Ct l yX3_lentIsCalled wsX3_lentIsCalled ({ frames := 1, cells := 0, slots := 0, locals := 21 }) D cI cO tF [.ref (ad 0), .int x1] (wX ad cI cO X) (some (.int ((f_X3_lentIsCalled X x1).1))) (wX ad cI cO ((f_X3_lentIsCalled X x1).2)) := by
  refine Ct.of (cc := cX3_lentIsCalled) (maxL := 2) (ret := (some .int)) (own := RX3) (by decide) rfl rfl (Nat.le_of_ble_eq_true rfl) ?_
  intro p e s m args below meth c A ls B hP hD hS hl
  obtain ⟨hx, hb, hret, hml, hts, hown, hlocks, hE, hA⟩ := id B
  have hK := hE.1
  have hl : lv_has ls 2 [(0, .ref (ad 0)), (1, .int x1)] := hl
  refine lv_aload_n hx hb dX3_lentIsCalled_0 rfl (lv_at hl 0 rfl) ?_
  refine lv_iconst (v := (4 : Int32)) hx hb dX3_lentIsCalled_1 (by decide) ?_
  refine kc_V (As := [.int (4 : Int32)]) (rest := []) B (c_X3_begin l D cI cO tF ad X (4 : Int32) ) (cwV 1 hts gX3_lentIsCalled_X3_begin rfl rfl rfl (by decide +kernel) ⟨Nat.le_of_ble_eq_true rfl, Nat.le_of_ble_eq_true rfl⟩) hP hD hS [0, 1, 2, 3, 4, 5, 6, 7, 8, 9, 10, 11, 12, 13, 14, 15, 16, 17, 18, 19, 20, 21] wX_subA (by decide) (w' := wX ad cI cO (f_X3_begin X (4 : Int32))) (wX_setA _) (wX_fst _) 0 3 rfl rfl rfl rfl hl.1 rfl (Nat.le_of_ble_eq_true rfl) dX3_lentIsCalled_2 ⟨Nat.zero_le _, Nat.zero_le _⟩ (fun H locs hP hD hS => ?_)
  have hD : va_D A (wX ad cI cO (f_X3_begin X (4 : Int32))) := hD
  refine lv_iload_n hx hb dX3_lentIsCalled_5 rfl (lv_at hl 1 rfl) ?_
  have hF : f_X3_lentIsCalled X x1 = (x1, (f_X3_begin X (4 : Int32))) := by rw [f_X3_lentIsCalled]
  rw [hF]
  exact kr_i B hP hS rfl rfl dX3_lentIsCalled_6
def f_X3_childIsCalled (X : XS) : Int32 × XS := ((30 : Int32), (f_X3_begin X (5 : Int32)))
set_option maxHeartbeats 4000000 in
set_option maxRecDepth 100000 in
theorem c_X3_childIsCalled (l : Launch) (D : va_G) (cI cO : ClassId) (tF : Nat) (ad : Nat → Nat) (X : XS) : Ct l yX3_childIsCalled wsX3_childIsCalled ({ frames := 1, cells := 0, slots := 0, locals := 21 }) D cI cO tF [.ref (ad 0)] (wX ad cI cO X) (some (.int ((f_X3_childIsCalled X).1))) (wX ad cI cO ((f_X3_childIsCalled X).2)) := by
  refine Ct.of (cc := cX3_childIsCalled) (maxL := 1) (ret := (some .int)) (own := RX3) (by decide) rfl rfl (Nat.le_of_ble_eq_true rfl) ?_
  intro p e s m args below meth c A ls B hP hD hS hl
  obtain ⟨hx, hb, hret, hml, hts, hown, hlocks, hE, hA⟩ := id B
  have hK := hE.1
  have hl : lv_has ls 1 [(0, .ref (ad 0))] := hl
  refine lv_aload_n hx hb dX3_childIsCalled_0 rfl (lv_at hl 0 rfl) ?_
  refine lv_iconst (v := (5 : Int32)) hx hb dX3_childIsCalled_1 (by decide) ?_
  refine kc_V (As := [.int (5 : Int32)]) (rest := []) B (c_X3_begin l D cI cO tF ad X (5 : Int32) ) (cwV 1 hts gX3_childIsCalled_X3_begin rfl rfl rfl (by decide +kernel) ⟨Nat.le_of_ble_eq_true rfl, Nat.le_of_ble_eq_true rfl⟩) hP hD hS [0, 1, 2, 3, 4, 5, 6, 7, 8, 9, 10, 11, 12, 13, 14, 15, 16, 17, 18, 19, 20, 21] wX_subA (by decide) (w' := wX ad cI cO (f_X3_begin X (5 : Int32))) (wX_setA _) (wX_fst _) 0 3 rfl rfl rfl rfl hl.1 rfl (Nat.le_of_ble_eq_true rfl) dX3_childIsCalled_2 ⟨Nat.zero_le _, Nat.zero_le _⟩ (fun H locs hP hD hS => ?_)
  have hD : va_D A (wX ad cI cO (f_X3_begin X (5 : Int32))) := hD
  refine lv_bipush (v := (30 : Int32)) hx hb dX3_childIsCalled_5 (by decide) ?_
  have hF : f_X3_childIsCalled X = ((30 : Int32), (f_X3_begin X (5 : Int32))) := by rw [f_X3_childIsCalled]
  rw [hF]
  exact kr_i B hP hS rfl rfl dX3_childIsCalled_7
def f_X3_tell (X : XS) (x1 : Int32) : Int32 × XS := (if (f_X2_has (X_now X) x1) = 0 then ((-1 : Int32), X) else (if ((T_kind (X_now X)) x1.toNatClampNeg) = (0 : Int32) then ((f_X3_grownTells X x1).1, (f_X3_grownTells X x1).2) else (if ((T_kind (X_now X)) x1.toNatClampNeg) = (1 : Int32) then ((f_X3_shyTells X x1).1, (f_X3_shyTells X x1).2) else ((f_X3_childTells X x1).1, (f_X3_childTells X x1).2))))
theorem iw_X3_tell_2 : ∀ w ∈ wsX20, w ∈ wsX3_tell := fun _ h => List.mem_cons_of_mem _ (List.mem_append_right _ h)
theorem iw_X3_tell_3 : ∀ w ∈ wsX30, w ∈ wsX3_tell := fun _ h => List.mem_cons_of_mem _ (List.mem_append_left _ (List.mem_append_right _ h))
set_option maxHeartbeats 4000000 in
set_option maxRecDepth 100000 in
theorem c_X3_tell (l : Launch) (D : va_G) (cI cO : ClassId) (tF : Nat) (ad : Nat → Nat) (X : XS) (x1 : Int32) (hn : (T_count (X_now X)).toInt ≤ 6) : Ct l yX3_tell wsX3_tell ({ frames := 4, cells := 0, slots := 0, locals := 85 }) D cI cO tF [.ref (ad 0), .int x1] (wX ad cI cO X) (some (.int ((f_X3_tell X x1).1))) (wX ad cI cO ((f_X3_tell X x1).2)) := by
  refine Ct.of (cc := cX3_tell) (maxL := 2) (ret := (some .int)) (own := RX3) (by decide) rfl rfl (Nat.le_of_ble_eq_true rfl) ?_
  intro p e s m args below meth c A ls B hP hD hS hl
  obtain ⟨hx, hb, hret, hml, hts, hown, hlocks, hE, hA⟩ := id B
  have hK := hE.1
  have hl : lv_has ls 2 [(0, .ref (ad 0)), (1, .int x1)] := hl
  refine lv_aload_n hx hb dX3_tell_0 rfl (lv_at hl 0 rfl) ?_
  refine va_get (D := D) (ci := 3) (v := .ref (ad 2)) (C := RX3) (T := TX3) (N := 7) hx hb hts iw_X3_tell_3 hown hK hP 0 rfl rfl 1 (by decide) (hts (.fieldLink RX3 20 "TownLisp" "now" "LTownLisp$Town;") (by decide +kernel)) (fun _ h9 => h9) rfl dX3_tell_1 ?_
  refine lv_iload_n hx hb dX3_tell_4 rfl (lv_at hl 1 rfl) ?_
  refine kc_V (As := [.int x1]) (rest := []) B (c_X2_has l D cI cO tF (ad 2) (ad 3) (ad 4) (ad 5) (X_now X) x1 ) (cwV 1 hts gX3_tell_X2_has rfl rfl rfl (by decide +kernel) ⟨Nat.le_of_ble_eq_true rfl, Nat.le_of_ble_eq_true rfl⟩) hP hD hS [2, 3, 4, 5] wX_subN (by decide) (w' := wX ad cI cO X) (wX_sameN) rfl 2 2 rfl rfl rfl rfl hl.1 rfl (Nat.le_of_ble_eq_true rfl) dX3_tell_5 ⟨Nat.zero_le _, Nat.zero_le _⟩ (fun H locs hP hD hS => ?_)
  have hD : va_D A (wX ad cI cO X) := hD
  refine lv_if_ne (tgt := 13) hx hb dX3_tell_8 (by decide) (fun c_8 => ?_) (fun c_8 => ?_)
  · refine lv_aload_n hx hb dX3_tell_13 rfl (lv_at hl 0 rfl) ?_
    refine va_get (D := D) (ci := 3) (v := .ref (ad 2)) (C := RX3) (T := TX3) (N := 7) hx hb hts iw_X3_tell_3 hown hK hP 0 rfl rfl 1 (by decide) (hts (.fieldLink RX3 20 "TownLisp" "now" "LTownLisp$Town;") (by decide +kernel)) (fun _ h9 => h9) rfl dX3_tell_14 ?_
    refine va_get (D := D) (ci := 2) (v := .ref (ad 3)) (C := RX2) (T := TX2) (N := 6) hx hb hts iw_X3_tell_2 hown hK hP 2 rfl rfl 0 (by decide) (hts (.fieldLink RX3 73 "TownLisp$Town" "kind" "[I") (by decide +kernel)) (fun _ h9 => h9) rfl dX3_tell_17 ?_
    refine lv_iload_n hx hb dX3_tell_20 rfl (lv_at hl 1 rfl) ?_
    refine va_iald hx hb hK hP 3 0 rfl rfl (has_in hn c_8) dX3_tell_21 ?_
    by_cases c_22_0 : ((T_kind (X_now X)) x1.toNatClampNeg) = (0 : Int32)
    · refine lv_lookup (off := 26) (tgt := 48) hx hb dX3_tell_22 (by decide) (by rw [c_22_0]; rfl) (by decide) ?_
      refine lv_aload_n hx hb dX3_tell_48 rfl (lv_at hl 0 rfl) ?_
      refine lv_iload_n hx hb dX3_tell_49 rfl (lv_at hl 1 rfl) ?_
      refine kc_V (As := [.int x1]) (rest := []) B (c_X3_grownTells l D cI cO tF ad X x1 (has_in hn c_8)) (cwV 1 hts gX3_tell_X3_grownTells rfl rfl rfl (by decide +kernel) ⟨Nat.le_of_ble_eq_true rfl, Nat.le_of_ble_eq_true rfl⟩) hP hD hS [0, 1, 2, 3, 4, 5, 6, 7, 8, 9, 10, 11, 12, 13, 14, 15, 16, 17, 18, 19, 20, 21] wX_subA (by decide) (w' := wX ad cI cO ((f_X3_grownTells X x1).2)) (wX_setA _) (wX_fst _) 0 3 rfl rfl rfl rfl hl.1 rfl (Nat.le_of_ble_eq_true rfl) dX3_tell_50 ⟨Nat.zero_le _, Nat.zero_le _⟩ (fun H locs hP hD hS => ?_)
      have hD : va_D A (wX ad cI cO ((f_X3_grownTells X x1).2)) := hD
      have hF : f_X3_tell X x1 = ((f_X3_grownTells X x1).1, (f_X3_grownTells X x1).2) := by rw [f_X3_tell, if_neg c_8, if_pos c_22_0]
      rw [hF]
      exact kr_i B hP hS rfl rfl dX3_tell_53
    by_cases c_22_1 : ((T_kind (X_now X)) x1.toNatClampNeg) = (1 : Int32)
    · refine lv_lookup (off := 32) (tgt := 54) hx hb dX3_tell_22 (by decide) (by rw [c_22_1]; rfl) (by decide) ?_
      refine lv_aload_n hx hb dX3_tell_54 rfl (lv_at hl 0 rfl) ?_
      refine lv_iload_n hx hb dX3_tell_55 rfl (lv_at hl 1 rfl) ?_
      refine kc_V (As := [.int x1]) (rest := []) B (c_X3_shyTells l D cI cO tF ad X x1 (has_in hn c_8)) (cwV 1 hts gX3_tell_X3_shyTells rfl rfl rfl (by decide +kernel) ⟨Nat.le_of_ble_eq_true rfl, Nat.le_of_ble_eq_true rfl⟩) hP hD hS [0, 1, 2, 3, 4, 5, 6, 7, 8, 9, 10, 11, 12, 13, 14, 15, 16, 17, 18, 19, 20, 21] wX_subA (by decide) (w' := wX ad cI cO ((f_X3_shyTells X x1).2)) (wX_setA _) (wX_fst _) 0 3 rfl rfl rfl rfl hl.1 rfl (Nat.le_of_ble_eq_true rfl) dX3_tell_56 ⟨Nat.zero_le _, Nat.zero_le _⟩ (fun H locs hP hD hS => ?_)
      have hD : va_D A (wX ad cI cO ((f_X3_shyTells X x1).2)) := hD
      have hF : f_X3_tell X x1 = ((f_X3_shyTells X x1).1, (f_X3_shyTells X x1).2) := by rw [f_X3_tell, if_neg c_8, if_neg c_22_0, if_pos c_22_1]
      rw [hF]
      exact kr_i B hP hS rfl rfl dX3_tell_59
    refine lv_lookup (off := 38) (tgt := 60) hx hb dX3_tell_22 (by decide) (by show Op.lookupswitch.offset [(0, 26), (1, 32)] 38 _ = _; rw [Op.lookupswitch.offset_cons, if_neg (fun h => c_22_0 ((fa_eq _ _).mpr h.symm)), Op.lookupswitch.offset_cons, if_neg (fun h => c_22_1 ((fa_eq _ _).mpr h.symm)), Op.lookupswitch.offset_nil]) (by decide) ?_
    refine lv_aload_n hx hb dX3_tell_60 rfl (lv_at hl 0 rfl) ?_
    refine lv_iload_n hx hb dX3_tell_61 rfl (lv_at hl 1 rfl) ?_
    refine kc_V (As := [.int x1]) (rest := []) B (c_X3_childTells l D cI cO tF ad X x1 (has_in hn c_8)) (cwV 1 hts gX3_tell_X3_childTells rfl rfl rfl (by decide +kernel) ⟨Nat.le_of_ble_eq_true rfl, Nat.le_of_ble_eq_true rfl⟩) hP hD hS [0, 1, 2, 3, 4, 5, 6, 7, 8, 9, 10, 11, 12, 13, 14, 15, 16, 17, 18, 19, 20, 21] wX_subA (by decide) (w' := wX ad cI cO ((f_X3_childTells X x1).2)) (wX_setA _) (wX_fst _) 0 3 rfl rfl rfl rfl hl.1 rfl (Nat.le_of_ble_eq_true rfl) dX3_tell_62 ⟨Nat.zero_le _, Nat.zero_le _⟩ (fun H locs hP hD hS => ?_)
    have hD : va_D A (wX ad cI cO ((f_X3_childTells X x1).2)) := hD
    have hF : f_X3_tell X x1 = ((f_X3_childTells X x1).1, (f_X3_childTells X x1).2) := by rw [f_X3_tell, if_neg c_8, if_neg c_22_0, if_neg c_22_1]
    rw [hF]
    exact kr_i B hP hS rfl rfl dX3_tell_65
  · refine lv_iconst (v := (-1 : Int32)) hx hb dX3_tell_11 (by decide) ?_
    have hF : f_X3_tell X x1 = ((-1 : Int32), X) := by rw [f_X3_tell, if_pos c_8]
    rw [hF]
    exact kr_i B hP hS rfl rfl dX3_tell_12
def f_X3_call (X : XS) (x1 : Int32) : Int32 × XS := (if (f_X2_has (X_now X) x1) = 0 then ((-1 : Int32), X) else (if ((T_kind (X_now X)) x1.toNatClampNeg) = (2 : Int32) then ((f_X3_childIsCalled X).1, (f_X3_childIsCalled X).2) else ((f_X3_lentIsCalled X x1).1, (f_X3_lentIsCalled X x1).2)))
theorem iw_X3_call_2 : ∀ w ∈ wsX20, w ∈ wsX3_call := fun _ h => List.mem_cons_of_mem _ (List.mem_append_right _ h)
theorem iw_X3_call_3 : ∀ w ∈ wsX30, w ∈ wsX3_call := fun _ h => List.mem_cons_of_mem _ (List.mem_append_left _ (List.mem_append_right _ h))
set_option maxHeartbeats 4000000 in
set_option maxRecDepth 100000 in
theorem c_X3_call (l : Launch) (D : va_G) (cI cO : ClassId) (tF : Nat) (ad : Nat → Nat) (X : XS) (x1 : Int32) (hn : (T_count (X_now X)).toInt ≤ 6) : Ct l yX3_call wsX3_call ({ frames := 2, cells := 0, slots := 0, locals := 42 }) D cI cO tF [.ref (ad 0), .int x1] (wX ad cI cO X) (some (.int ((f_X3_call X x1).1))) (wX ad cI cO ((f_X3_call X x1).2)) := by
  refine Ct.of (cc := cX3_call) (maxL := 2) (ret := (some .int)) (own := RX3) (by decide) rfl rfl (Nat.le_of_ble_eq_true rfl) ?_
  intro p e s m args below meth c A ls B hP hD hS hl
  obtain ⟨hx, hb, hret, hml, hts, hown, hlocks, hE, hA⟩ := id B
  have hK := hE.1
  have hl : lv_has ls 2 [(0, .ref (ad 0)), (1, .int x1)] := hl
  refine lv_aload_n hx hb dX3_call_0 rfl (lv_at hl 0 rfl) ?_
  refine va_get (D := D) (ci := 3) (v := .ref (ad 2)) (C := RX3) (T := TX3) (N := 7) hx hb hts iw_X3_call_3 hown hK hP 0 rfl rfl 1 (by decide) (hts (.fieldLink RX3 20 "TownLisp" "now" "LTownLisp$Town;") (by decide +kernel)) (fun _ h9 => h9) rfl dX3_call_1 ?_
  refine lv_iload_n hx hb dX3_call_4 rfl (lv_at hl 1 rfl) ?_
  refine kc_V (As := [.int x1]) (rest := []) B (c_X2_has l D cI cO tF (ad 2) (ad 3) (ad 4) (ad 5) (X_now X) x1 ) (cwV 1 hts gX3_call_X2_has rfl rfl rfl (by decide +kernel) ⟨Nat.le_of_ble_eq_true rfl, Nat.le_of_ble_eq_true rfl⟩) hP hD hS [2, 3, 4, 5] wX_subN (by decide) (w' := wX ad cI cO X) (wX_sameN) rfl 2 2 rfl rfl rfl rfl hl.1 rfl (Nat.le_of_ble_eq_true rfl) dX3_call_5 ⟨Nat.zero_le _, Nat.zero_le _⟩ (fun H locs hP hD hS => ?_)
  have hD : va_D A (wX ad cI cO X) := hD
  refine lv_if_ne (tgt := 13) hx hb dX3_call_8 (by decide) (fun c_8 => ?_) (fun c_8 => ?_)
  · refine lv_aload_n hx hb dX3_call_13 rfl (lv_at hl 0 rfl) ?_
    refine va_get (D := D) (ci := 3) (v := .ref (ad 2)) (C := RX3) (T := TX3) (N := 7) hx hb hts iw_X3_call_3 hown hK hP 0 rfl rfl 1 (by decide) (hts (.fieldLink RX3 20 "TownLisp" "now" "LTownLisp$Town;") (by decide +kernel)) (fun _ h9 => h9) rfl dX3_call_14 ?_
    refine va_get (D := D) (ci := 2) (v := .ref (ad 3)) (C := RX2) (T := TX2) (N := 6) hx hb hts iw_X3_call_2 hown hK hP 2 rfl rfl 0 (by decide) (hts (.fieldLink RX3 73 "TownLisp$Town" "kind" "[I") (by decide +kernel)) (fun _ h9 => h9) rfl dX3_call_17 ?_
    refine lv_iload_n hx hb dX3_call_20 rfl (lv_at hl 1 rfl) ?_
    refine va_iald hx hb hK hP 3 0 rfl rfl (has_in hn c_8) dX3_call_21 ?_
    refine lv_iconst (v := (2 : Int32)) hx hb dX3_call_22 (by decide) ?_
    refine lv_icmp_ne (tgt := 33) hx hb dX3_call_23 (by decide) (fun c_23 => ?_) (fun c_23 => ?_)
    · refine lv_aload_n hx hb dX3_call_33 rfl (lv_at hl 0 rfl) ?_
      refine lv_iload_n hx hb dX3_call_34 rfl (lv_at hl 1 rfl) ?_
      refine kc_V (As := [.int x1]) (rest := []) B (c_X3_lentIsCalled l D cI cO tF ad X x1 ) (cwV 1 hts gX3_call_X3_lentIsCalled rfl rfl rfl (by decide +kernel) ⟨Nat.le_of_ble_eq_true rfl, Nat.le_of_ble_eq_true rfl⟩) hP hD hS [0, 1, 2, 3, 4, 5, 6, 7, 8, 9, 10, 11, 12, 13, 14, 15, 16, 17, 18, 19, 20, 21] wX_subA (by decide) (w' := wX ad cI cO ((f_X3_lentIsCalled X x1).2)) (wX_setA _) (wX_fst _) 0 3 rfl rfl rfl rfl hl.1 rfl (Nat.le_of_ble_eq_true rfl) dX3_call_35 ⟨Nat.zero_le _, Nat.zero_le _⟩ (fun H locs hP hD hS => ?_)
      have hD : va_D A (wX ad cI cO ((f_X3_lentIsCalled X x1).2)) := hD
      have hF : f_X3_call X x1 = ((f_X3_lentIsCalled X x1).1, (f_X3_lentIsCalled X x1).2) := by rw [f_X3_call, if_neg c_8, if_neg c_23]
      rw [hF]
      exact kr_i B hP hS rfl rfl dX3_call_38
    · refine lv_aload_n hx hb dX3_call_26 rfl (lv_at hl 0 rfl) ?_
      refine kc_V (As := []) (rest := []) B (c_X3_childIsCalled l D cI cO tF ad X ) (cwV 0 hts gX3_call_X3_childIsCalled rfl rfl rfl (by decide +kernel) ⟨Nat.le_of_ble_eq_true rfl, Nat.le_of_ble_eq_true rfl⟩) hP hD hS [0, 1, 2, 3, 4, 5, 6, 7, 8, 9, 10, 11, 12, 13, 14, 15, 16, 17, 18, 19, 20, 21] wX_subA (by decide) (w' := wX ad cI cO ((f_X3_childIsCalled X).2)) (wX_setA _) (wX_fst _) 0 3 rfl rfl rfl rfl hl.1 rfl (Nat.le_of_ble_eq_true rfl) dX3_call_27 ⟨Nat.zero_le _, Nat.zero_le _⟩ (fun H locs hP hD hS => ?_)
      have hD : va_D A (wX ad cI cO ((f_X3_childIsCalled X).2)) := hD
      refine lv_goto (tgt := 38) hx hb dX3_call_30 (by decide) ?_
      have hF : f_X3_call X x1 = ((f_X3_childIsCalled X).1, (f_X3_childIsCalled X).2) := by rw [f_X3_call, if_neg c_8, if_pos c_23]
      rw [hF]
      exact kr_i B hP hS rfl rfl dX3_call_38
  · refine lv_iconst (v := (-1 : Int32)) hx hb dX3_call_11 (by decide) ?_
    have hF : f_X3_call X x1 = ((-1 : Int32), X) := by rw [f_X3_call, if_pos c_8]
    rw [hF]
    exact kr_i B hP hS rfl rfl dX3_call_12
def f_X3_as (X : XS) (x1 : Int32) (x2 : Int32) : Int32 × XS := (if (f_X2_has (X_now X) x1) = 0 then ((-1 : Int32), (X_latestFault' X (0 : Int32))) else (if x2 < 0 then ((-2 : Int32), (X_latestFault' X (0 : Int32))) else (if x2 ≤ (2 : Int32) then (if x2 ≤ ((T_kind (X_now X)) x1.toNatClampNeg) then ((1 : Int32), (X_latestFault' X (0 : Int32))) else ((f_X3_faulty (X_latestFault' X (0 : Int32)) (2 : Int32)).1, (f_X3_faulty (X_latestFault' X (0 : Int32)) (2 : Int32)).2)) else ((-2 : Int32), (X_latestFault' X (0 : Int32))))))
theorem iw_X3_as_2 : ∀ w ∈ wsX20, w ∈ wsX3_as := fun _ h => List.mem_cons_of_mem _ (List.mem_append_right _ h)
theorem iw_X3_as_3 : ∀ w ∈ wsX30, w ∈ wsX3_as := fun _ h => List.mem_cons_of_mem _ (List.mem_append_left _ (List.mem_append_right _ h))
set_option maxHeartbeats 4000000 in
set_option maxRecDepth 100000 in
theorem c_X3_as (l : Launch) (D : va_G) (cI cO : ClassId) (tF : Nat) (ad : Nat → Nat) (X : XS) (x1 : Int32) (x2 : Int32) (hn : (T_count (X_now X)).toInt ≤ 6) : Ct l yX3_as wsX3_as ({ frames := 1, cells := 0, slots := 0, locals := 21 }) D cI cO tF [.ref (ad 0), .int x1, .int x2] (wX ad cI cO X) (some (.int ((f_X3_as X x1 x2).1))) (wX ad cI cO ((f_X3_as X x1 x2).2)) := by
  refine Ct.of (cc := cX3_as) (maxL := 3) (ret := (some .int)) (own := RX3) (by decide) rfl rfl (Nat.le_of_ble_eq_true rfl) ?_
  intro p e s m args below meth c A ls B hP hD hS hl
  obtain ⟨hx, hb, hret, hml, hts, hown, hlocks, hE, hA⟩ := id B
  have hK := hE.1
  have hl : lv_has ls 3 [(0, .ref (ad 0)), (1, .int x1), (2, .int x2)] := hl
  refine lv_aload_n hx hb dX3_as_0 rfl (lv_at hl 0 rfl) ?_
  refine lv_iconst (v := (0 : Int32)) hx hb dX3_as_1 (by decide) ?_
  refine va_put (D := D) (ci := 3) (v := .int (0 : Int32)) (ty := .int) (C := RX3) (T := TX3) (N := 7) hx hb hts iw_X3_as_3 tyX3 tyX3_ok nmX3 hown hK hP hD hS 0 rfl rfl 6 (by decide) (hts (.fieldLink RX3 35 "TownLisp" "latestFault" "I") (by decide +kernel)) (fun _ h9 => h9) rfl (by decide +kernel) rfl rfl (Nat.le_of_ble_eq_true rfl) dX3_as_2 (fun H locs hP hD hS => ?_)
  have hP : va_P D vwCl (wX ad cI cO (X_latestFault' X (0 : Int32))) H := hP
  have hD : va_D A (wX ad cI cO (X_latestFault' X (0 : Int32))) := hD
  refine lv_aload_n hx hb dX3_as_5 rfl (lv_at hl 0 rfl) ?_
  refine va_get (D := D) (ci := 3) (v := .ref (ad 2)) (C := RX3) (T := TX3) (N := 7) hx hb hts iw_X3_as_3 hown hK hP 0 rfl rfl 1 (by decide) (hts (.fieldLink RX3 20 "TownLisp" "now" "LTownLisp$Town;") (by decide +kernel)) (fun _ h9 => h9) rfl dX3_as_6 ?_
  refine lv_iload_n hx hb dX3_as_9 rfl (lv_at hl 1 rfl) ?_
  refine kc_V (As := [.int x1]) (rest := []) B (c_X2_has l D cI cO tF (ad 2) (ad 3) (ad 4) (ad 5) (X_now X) x1 ) (cwV 1 hts gX3_as_X2_has rfl rfl rfl (by decide +kernel) ⟨Nat.le_of_ble_eq_true rfl, Nat.le_of_ble_eq_true rfl⟩) hP hD hS [2, 3, 4, 5] wX_subN (by decide) (w' := wX ad cI cO (X_latestFault' X (0 : Int32))) (wX_sameN) rfl 2 2 rfl rfl rfl rfl hl.1 rfl (Nat.le_of_ble_eq_true rfl) dX3_as_10 ⟨Nat.zero_le _, Nat.zero_le _⟩ (fun H locs hP hD hS => ?_)
  have hD : va_D A (wX ad cI cO (X_latestFault' X (0 : Int32))) := hD
  refine lv_if_ne (tgt := 18) hx hb dX3_as_13 (by decide) (fun c_13 => ?_) (fun c_13 => ?_)
  · refine lv_iload_n hx hb dX3_as_18 rfl (lv_at hl 2 rfl) ?_
    refine lv_if_lt (tgt := 27) hx hb dX3_as_19 (by decide) (fun c_19 => ?_) (fun c_19 => ?_)
    · refine lv_bipush (v := (-2 : Int32)) hx hb dX3_as_27 (by decide) ?_
      have hF : f_X3_as X x1 x2 = ((-2 : Int32), (X_latestFault' X (0 : Int32))) := by rw [f_X3_as, if_neg c_13, if_pos c_19]
      rw [hF]
      exact kr_i B hP hS rfl rfl dX3_as_29
    · refine lv_iload_n hx hb dX3_as_22 rfl (lv_at hl 2 rfl) ?_
      refine lv_iconst (v := (2 : Int32)) hx hb dX3_as_23 (by decide) ?_
      refine lv_icmp_le (tgt := 30) hx hb dX3_as_24 (by decide) (fun c_24 => ?_) (fun c_24 => ?_)
      · refine lv_aload_n hx hb dX3_as_30 rfl (lv_at hl 0 rfl) ?_
        refine va_get (D := D) (ci := 3) (v := .ref (ad 2)) (C := RX3) (T := TX3) (N := 7) hx hb hts iw_X3_as_3 hown hK hP 0 rfl rfl 1 (by decide) (hts (.fieldLink RX3 20 "TownLisp" "now" "LTownLisp$Town;") (by decide +kernel)) (fun _ h9 => h9) rfl dX3_as_31 ?_
        refine va_get (D := D) (ci := 2) (v := .ref (ad 3)) (C := RX2) (T := TX2) (N := 6) hx hb hts iw_X3_as_2 hown hK hP 2 rfl rfl 0 (by decide) (hts (.fieldLink RX3 73 "TownLisp$Town" "kind" "[I") (by decide +kernel)) (fun _ h9 => h9) rfl dX3_as_34 ?_
        refine lv_iload_n hx hb dX3_as_37 rfl (lv_at hl 1 rfl) ?_
        refine va_iald hx hb hK hP 3 0 rfl rfl (has_in hn c_13) dX3_as_38 ?_
        refine lv_iload_n hx hb dX3_as_39 rfl (lv_at hl 2 rfl) ?_
        refine lv_icmp_ge (tgt := 51) hx hb dX3_as_40 (by decide) (fun c_40 => ?_) (fun c_40 => ?_)
        · refine lv_iconst (v := (1 : Int32)) hx hb dX3_as_51 (by decide) ?_
          have hF : f_X3_as X x1 x2 = ((1 : Int32), (X_latestFault' X (0 : Int32))) := by rw [f_X3_as, if_neg c_13, if_neg c_19, if_pos c_24, if_pos c_40]
          rw [hF]
          exact kr_i B hP hS rfl rfl dX3_as_52
        · refine lv_aload_n hx hb dX3_as_43 rfl (lv_at hl 0 rfl) ?_
          refine lv_iconst (v := (2 : Int32)) hx hb dX3_as_44 (by decide) ?_
          refine kc_V (As := [.int (2 : Int32)]) (rest := []) B (c_X3_faulty l D cI cO tF ad (X_latestFault' X (0 : Int32)) (2 : Int32) ) (cwV 1 hts gX3_as_X3_faulty rfl rfl rfl (by decide +kernel) ⟨Nat.le_of_ble_eq_true rfl, Nat.le_of_ble_eq_true rfl⟩) hP hD hS [0, 1, 2, 3, 4, 5, 6, 7, 8, 9, 10, 11, 12, 13, 14, 15, 16, 17, 18, 19, 20, 21] wX_subA (by decide) (w' := wX ad cI cO ((f_X3_faulty (X_latestFault' X (0 : Int32)) (2 : Int32)).2)) (wX_setA _) (wX_fst _) 0 3 rfl rfl rfl rfl hl.1 rfl (Nat.le_of_ble_eq_true rfl) dX3_as_45 ⟨Nat.zero_le _, Nat.zero_le _⟩ (fun H locs hP hD hS => ?_)
          have hD : va_D A (wX ad cI cO ((f_X3_faulty (X_latestFault' X (0 : Int32)) (2 : Int32)).2)) := hD
          refine lv_goto (tgt := 52) hx hb dX3_as_48 (by decide) ?_
          have hF : f_X3_as X x1 x2 = ((f_X3_faulty (X_latestFault' X (0 : Int32)) (2 : Int32)).1, (f_X3_faulty (X_latestFault' X (0 : Int32)) (2 : Int32)).2) := by rw [f_X3_as, if_neg c_13, if_neg c_19, if_pos c_24, if_neg c_40]
          rw [hF]
          exact kr_i B hP hS rfl rfl dX3_as_52
      · refine lv_bipush (v := (-2 : Int32)) hx hb dX3_as_27 (by decide) ?_
        have hF : f_X3_as X x1 x2 = ((-2 : Int32), (X_latestFault' X (0 : Int32))) := by rw [f_X3_as, if_neg c_13, if_neg c_19, if_neg c_24]
        rw [hF]
        exact kr_i B hP hS rfl rfl dX3_as_29
  · refine lv_iconst (v := (-1 : Int32)) hx hb dX3_as_16 (by decide) ?_
    have hF : f_X3_as X x1 x2 = ((-1 : Int32), (X_latestFault' X (0 : Int32))) := by rw [f_X3_as, if_pos c_13]
    rw [hF]
    exact kr_i B hP hS rfl rfl dX3_as_17
def f_X3_trace (X : XS) : Int32 := (X_traced X)
theorem iw_X3_trace_3 : ∀ w ∈ wsX30, w ∈ wsX3_trace := fun _ h => List.mem_cons_of_mem _ (List.mem_append_right _ h)
set_option maxHeartbeats 4000000 in
set_option maxRecDepth 100000 in
theorem c_X3_trace (l : Launch) (D : va_G) (cI cO : ClassId) (tF : Nat) (ad : Nat → Nat) (X : XS) : Ct l yX3_trace wsX3_trace ({ frames := 0, cells := 0, slots := 0, locals := 0 }) D cI cO tF [.ref (ad 0)] (wX ad cI cO X) (some (.int (f_X3_trace X))) (wX ad cI cO X) := by
  refine Ct.of (cc := cX3_trace) (maxL := 1) (ret := (some .int)) (own := RX3) (by decide) rfl rfl (Nat.le_of_ble_eq_true rfl) ?_
  intro p e s m args below meth c A ls B hP hD hS hl
  obtain ⟨hx, hb, hret, hml, hts, hown, hlocks, hE, hA⟩ := id B
  have hK := hE.1
  have hl : lv_has ls 1 [(0, .ref (ad 0))] := hl
  refine lv_aload_n hx hb dX3_trace_0 rfl (lv_at hl 0 rfl) ?_
  refine va_get (D := D) (ci := 3) (v := .int (X_traced X)) (C := RX3) (T := TX3) (N := 7) hx hb hts iw_X3_trace_3 hown hK hP 0 rfl rfl 5 (by decide) (hts (.fieldLink RX3 209 "TownLisp" "traced" "I") (by decide +kernel)) (fun _ h9 => h9) rfl dX3_trace_1 ?_
  have hF : f_X3_trace X = (X_traced X) := by rw [f_X3_trace]
  rw [hF]
  exact kr_i B hP hS rfl rfl dX3_trace_4
def f_X3_fault (X : XS) : Int32 := (X_latestFault X)
theorem iw_X3_fault_3 : ∀ w ∈ wsX30, w ∈ wsX3_fault := fun _ h => List.mem_cons_of_mem _ (List.mem_append_right _ h)
set_option maxHeartbeats 4000000 in
set_option maxRecDepth 100000 in
theorem c_X3_fault (l : Launch) (D : va_G) (cI cO : ClassId) (tF : Nat) (ad : Nat → Nat) (X : XS) : Ct l yX3_fault wsX3_fault ({ frames := 0, cells := 0, slots := 0, locals := 0 }) D cI cO tF [.ref (ad 0)] (wX ad cI cO X) (some (.int (f_X3_fault X))) (wX ad cI cO X) := by
  refine Ct.of (cc := cX3_fault) (maxL := 1) (ret := (some .int)) (own := RX3) (by decide) rfl rfl (Nat.le_of_ble_eq_true rfl) ?_
  intro p e s m args below meth c A ls B hP hD hS hl
  obtain ⟨hx, hb, hret, hml, hts, hown, hlocks, hE, hA⟩ := id B
  have hK := hE.1
  have hl : lv_has ls 1 [(0, .ref (ad 0))] := hl
  refine lv_aload_n hx hb dX3_fault_0 rfl (lv_at hl 0 rfl) ?_
  refine va_get (D := D) (ci := 3) (v := .int (X_latestFault X)) (C := RX3) (T := TX3) (N := 7) hx hb hts iw_X3_fault_3 hown hK hP 0 rfl rfl 6 (by decide) (hts (.fieldLink RX3 35 "TownLisp" "latestFault" "I") (by decide +kernel)) (fun _ h9 => h9) rfl dX3_fault_1 ?_
  have hF : f_X3_fault X = (X_latestFault X) := by rw [f_X3_fault]
  rw [hF]
  exact kr_i B hP hS rfl rfl dX3_fault_4
def f_X3_many (X : XS) (x1 : Int32) : Int32 := (if x1 = (0 : Int32) then (T_count (X_now X)) else (if x1 = (1 : Int32) then (T_tin (X_now X)) else (if x1 = (2 : Int32) then (f_X2_heads (X_now X)) else (if x1 = (3 : Int32) then (X_daysGone X) else (if x1 = (4 : Int32) then (R_count (X_said X)) else (-2 : Int32))))))
theorem iw_X3_many_0 : ∀ w ∈ wsX00, w ∈ wsX3_many := fun _ h => List.mem_cons_of_mem _ (List.mem_append_right _ h)
theorem iw_X3_many_2 : ∀ w ∈ wsX20, w ∈ wsX3_many := fun _ h => List.mem_cons_of_mem _ (List.mem_append_left _ (List.mem_append_right _ h))
theorem iw_X3_many_3 : ∀ w ∈ wsX30, w ∈ wsX3_many := fun _ h => List.mem_cons_of_mem _ (List.mem_append_left _ (List.mem_append_left _ (List.mem_append_right _ h)))
set_option maxHeartbeats 4000000 in
set_option maxRecDepth 100000 in
theorem c_X3_many (l : Launch) (D : va_G) (cI cO : ClassId) (tF : Nat) (ad : Nat → Nat) (X : XS) (x1 : Int32) : Ct l yX3_many wsX3_many ({ frames := 2, cells := 0, slots := 0, locals := 40 }) D cI cO tF [.ref (ad 0), .int x1] (wX ad cI cO X) (some (.int (f_X3_many X x1))) (wX ad cI cO X) := by
  refine Ct.of (cc := cX3_many) (maxL := 2) (ret := (some .int)) (own := RX3) (by decide) rfl rfl (Nat.le_of_ble_eq_true rfl) ?_
  intro p e s m args below meth c A ls B hP hD hS hl
  obtain ⟨hx, hb, hret, hml, hts, hown, hlocks, hE, hA⟩ := id B
  have hK := hE.1
  have hl : lv_has ls 2 [(0, .ref (ad 0)), (1, .int x1)] := hl
  refine lv_iload_n hx hb dX3_many_0 rfl (lv_at hl 1 rfl) ?_
  by_cases c_1_0 : x1 = (0 : Int32)
  · refine lv_tableIn (off := 35) (tgt := 36) hx hb dX3_many_1 (by rw [c_1_0]; decide) (by rw [c_1_0]; decide) (by rw [c_1_0]; rfl) (by decide) ?_
    refine lv_aload_n hx hb dX3_many_36 rfl (lv_at hl 0 rfl) ?_
    refine va_get (D := D) (ci := 3) (v := .ref (ad 2)) (C := RX3) (T := TX3) (N := 7) hx hb hts iw_X3_many_3 hown hK hP 0 rfl rfl 1 (by decide) (hts (.fieldLink RX3 20 "TownLisp" "now" "LTownLisp$Town;") (by decide +kernel)) (fun _ h9 => h9) rfl dX3_many_37 ?_
    refine va_get (D := D) (ci := 2) (v := .int (T_count (X_now X))) (C := RX2) (T := TX2) (N := 6) hx hb hts iw_X3_many_2 hown hK hP 2 rfl rfl 3 (by decide) (hts (.fieldLink RX3 69 "TownLisp$Town" "count" "I") (by decide +kernel)) (fun _ h9 => h9) rfl dX3_many_40 ?_
    have hF : f_X3_many X x1 = (T_count (X_now X)) := by rw [f_X3_many, if_pos c_1_0]
    rw [hF]
    exact kr_i B hP hS rfl rfl dX3_many_43
  by_cases c_1_1 : x1 = (1 : Int32)
  · refine lv_tableIn (off := 43) (tgt := 44) hx hb dX3_many_1 (by rw [c_1_1]; decide) (by rw [c_1_1]; decide) (by rw [c_1_1]; rfl) (by decide) ?_
    refine lv_aload_n hx hb dX3_many_44 rfl (lv_at hl 0 rfl) ?_
    refine va_get (D := D) (ci := 3) (v := .ref (ad 2)) (C := RX3) (T := TX3) (N := 7) hx hb hts iw_X3_many_3 hown hK hP 0 rfl rfl 1 (by decide) (hts (.fieldLink RX3 20 "TownLisp" "now" "LTownLisp$Town;") (by decide +kernel)) (fun _ h9 => h9) rfl dX3_many_45 ?_
    refine va_get (D := D) (ci := 2) (v := .int (T_tin (X_now X))) (C := RX2) (T := TX2) (N := 6) hx hb hts iw_X3_many_2 hown hK hP 2 rfl rfl 5 (by decide) (hts (.fieldLink RX3 103 "TownLisp$Town" "tin" "I") (by decide +kernel)) (fun _ h9 => h9) rfl dX3_many_48 ?_
    have hF : f_X3_many X x1 = (T_tin (X_now X)) := by rw [f_X3_many, if_neg c_1_0, if_pos c_1_1]
    rw [hF]
    exact kr_i B hP hS rfl rfl dX3_many_51
  by_cases c_1_2 : x1 = (2 : Int32)
  · refine lv_tableIn (off := 51) (tgt := 52) hx hb dX3_many_1 (by rw [c_1_2]; decide) (by rw [c_1_2]; decide) (by rw [c_1_2]; rfl) (by decide) ?_
    refine lv_aload_n hx hb dX3_many_52 rfl (lv_at hl 0 rfl) ?_
    refine va_get (D := D) (ci := 3) (v := .ref (ad 2)) (C := RX3) (T := TX3) (N := 7) hx hb hts iw_X3_many_3 hown hK hP 0 rfl rfl 1 (by decide) (hts (.fieldLink RX3 20 "TownLisp" "now" "LTownLisp$Town;") (by decide +kernel)) (fun _ h9 => h9) rfl dX3_many_53 ?_
    refine kc_V (As := []) (rest := []) B (c_X2_heads l D cI cO tF (ad 2) (ad 3) (ad 4) (ad 5) (X_now X) ) (cwV 0 hts gX3_many_X2_heads rfl rfl rfl (by decide +kernel) ⟨Nat.le_of_ble_eq_true rfl, Nat.le_of_ble_eq_true rfl⟩) hP hD hS [2, 3, 4, 5] wX_subN (by decide) (w' := wX ad cI cO X) (wX_sameN) rfl 2 2 rfl rfl rfl rfl hl.1 rfl (Nat.le_of_ble_eq_true rfl) dX3_many_56 ⟨Nat.zero_le _, Nat.zero_le _⟩ (fun H locs hP hD hS => ?_)
    have hD : va_D A (wX ad cI cO X) := hD
    have hF : f_X3_many X x1 = (f_X2_heads (X_now X)) := by rw [f_X3_many, if_neg c_1_0, if_neg c_1_1, if_pos c_1_2]
    rw [hF]
    exact kr_i B hP hS rfl rfl dX3_many_59
  by_cases c_1_3 : x1 = (3 : Int32)
  · refine lv_tableIn (off := 59) (tgt := 60) hx hb dX3_many_1 (by rw [c_1_3]; decide) (by rw [c_1_3]; decide) (by rw [c_1_3]; rfl) (by decide) ?_
    refine lv_aload_n hx hb dX3_many_60 rfl (lv_at hl 0 rfl) ?_
    refine va_get (D := D) (ci := 3) (v := .int (X_daysGone X)) (C := RX3) (T := TX3) (N := 7) hx hb hts iw_X3_many_3 hown hK hP 0 rfl rfl 4 (by decide) (hts (.fieldLink RX3 66 "TownLisp" "daysGone" "I") (by decide +kernel)) (fun _ h9 => h9) rfl dX3_many_61 ?_
    have hF : f_X3_many X x1 = (X_daysGone X) := by rw [f_X3_many, if_neg c_1_0, if_neg c_1_1, if_neg c_1_2, if_pos c_1_3]
    rw [hF]
    exact kr_i B hP hS rfl rfl dX3_many_64
  by_cases c_1_4 : x1 = (4 : Int32)
  · refine lv_tableIn (off := 64) (tgt := 65) hx hb dX3_many_1 (by rw [c_1_4]; decide) (by rw [c_1_4]; decide) (by rw [c_1_4]; rfl) (by decide) ?_
    refine lv_aload_n hx hb dX3_many_65 rfl (lv_at hl 0 rfl) ?_
    refine va_get (D := D) (ci := 3) (v := .ref (ad 10)) (C := RX3) (T := TX3) (N := 7) hx hb hts iw_X3_many_3 hown hK hP 0 rfl rfl 3 (by decide) (hts (.fieldLink RX3 30 "TownLisp" "said" "LTownLisp$Readings;") (by decide +kernel)) (fun _ h9 => h9) rfl dX3_many_66 ?_
    refine va_get (D := D) (ci := 0) (v := .int (R_count (X_said X))) (C := RX0) (T := TX0) (N := 4) hx hb hts iw_X3_many_0 hown hK hP 10 rfl rfl 3 (by decide) (hts (.fieldLink RX3 63 "TownLisp$Readings" "count" "I") (by decide +kernel)) (fun _ h9 => h9) rfl dX3_many_69 ?_
    have hF : f_X3_many X x1 = (R_count (X_said X)) := by rw [f_X3_many, if_neg c_1_0, if_neg c_1_1, if_neg c_1_2, if_neg c_1_3, if_pos c_1_4]
    rw [hF]
    exact kr_i B hP hS rfl rfl dX3_many_72
  refine lv_tableOut (tgt := 73) hx hb dX3_many_1 (sw_out5 c_1_0 c_1_1 c_1_2 c_1_3 c_1_4) (by decide) ?_
  refine lv_bipush (v := (-2 : Int32)) hx hb dX3_many_73 (by decide) ?_
  have hF : f_X3_many X x1 = (-2 : Int32) := by rw [f_X3_many, if_neg c_1_0, if_neg c_1_1, if_neg c_1_2, if_neg c_1_3, if_neg c_1_4]
  rw [hF]
  exact kr_i B hP hS rfl rfl dX3_many_75
def f_X3_behindYear (X : XS) (x1 : Int32) : Int32 := (if x1 = (0 : Int32) then (T_tin (X_then X)) else (if x1 = (1 : Int32) then (if (f_X2_has (X_then X) (x1 - (10 : Int32))) = 0 then (-9 : Int32) else ((T_parts (X_then X)) (x1 - (10 : Int32)).toNatClampNeg)) else (if x1 = (2 : Int32) then (T_inside (X_then X)) else (if x1 = (3 : Int32) then (f_X2_allSay (X_then X)) else (if (f_X2_has (X_then X) (x1 - (10 : Int32))) = 0 then (-9 : Int32) else ((T_parts (X_then X)) (x1 - (10 : Int32)).toNatClampNeg))))))
theorem iw_X3_behindYear_2 : ∀ w ∈ wsX20, w ∈ wsX3_behindYear := fun _ h => List.mem_cons_of_mem _ (List.mem_append_right _ h)
theorem iw_X3_behindYear_3 : ∀ w ∈ wsX30, w ∈ wsX3_behindYear := fun _ h => List.mem_cons_of_mem _ (List.mem_append_left _ (List.mem_append_right _ h))
set_option maxHeartbeats 4000000 in
set_option maxRecDepth 100000 in
theorem c_X3_behindYear (l : Launch) (D : va_G) (cI cO : ClassId) (tF : Nat) (ad : Nat → Nat) (X : XS) (x1 : Int32) (hnt : (T_count (X_then X)).toInt ≤ 6) : Ct l yX3_behindYear wsX3_behindYear ({ frames := 4, cells := 0, slots := 0, locals := 90 }) D cI cO tF [.ref (ad 0), .int x1] (wX ad cI cO X) (some (.int (f_X3_behindYear X x1))) (wX ad cI cO X) := by
  refine Ct.of (cc := cX3_behindYear) (maxL := 2) (ret := (some .int)) (own := RX3) (by decide) rfl rfl (Nat.le_of_ble_eq_true rfl) ?_
  intro p e s m args below meth c A ls B hP hD hS hl
  obtain ⟨hx, hb, hret, hml, hts, hown, hlocks, hE, hA⟩ := id B
  have hK := hE.1
  have hl : lv_has ls 2 [(0, .ref (ad 0)), (1, .int x1)] := hl
  refine lv_iload_n hx hb dX3_behindYear_0 rfl (lv_at hl 1 rfl) ?_
  by_cases c_1_0 : x1 = (0 : Int32)
  · refine lv_tableIn (off := 31) (tgt := 32) hx hb dX3_behindYear_1 (by rw [c_1_0]; decide) (by rw [c_1_0]; decide) (by rw [c_1_0]; rfl) (by decide) ?_
    refine lv_aload_n hx hb dX3_behindYear_32 rfl (lv_at hl 0 rfl) ?_
    refine va_get (D := D) (ci := 3) (v := .ref (ad 6)) (C := RX3) (T := TX3) (N := 7) hx hb hts iw_X3_behindYear_3 hown hK hP 0 rfl rfl 2 (by decide) (hts (.fieldLink RX3 24 "TownLisp" "then" "LTownLisp$Town;") (by decide +kernel)) (fun _ h9 => h9) rfl dX3_behindYear_33 ?_
    refine va_get (D := D) (ci := 2) (v := .int (T_tin (X_then X))) (C := RX2) (T := TX2) (N := 6) hx hb hts iw_X3_behindYear_2 hown hK hP 6 rfl rfl 5 (by decide) (hts (.fieldLink RX3 103 "TownLisp$Town" "tin" "I") (by decide +kernel)) (fun _ h9 => h9) rfl dX3_behindYear_36 ?_
    have hF : f_X3_behindYear X x1 = (T_tin (X_then X)) := by rw [f_X3_behindYear, if_pos c_1_0]
    rw [hF]
    exact kr_i B hP hS rfl rfl dX3_behindYear_39
  by_cases c_1_1 : x1 = (1 : Int32)
  · refine lv_tableIn (off := 55) (tgt := 56) hx hb dX3_behindYear_1 (by rw [c_1_1]; decide) (by rw [c_1_1]; decide) (by rw [c_1_1]; rfl) (by decide) ?_
    refine lv_aload_n hx hb dX3_behindYear_56 rfl (lv_at hl 0 rfl) ?_
    refine va_get (D := D) (ci := 3) (v := .ref (ad 6)) (C := RX3) (T := TX3) (N := 7) hx hb hts iw_X3_behindYear_3 hown hK hP 0 rfl rfl 2 (by decide) (hts (.fieldLink RX3 24 "TownLisp" "then" "LTownLisp$Town;") (by decide +kernel)) (fun _ h9 => h9) rfl dX3_behindYear_57 ?_
    refine lv_iload_n hx hb dX3_behindYear_60 rfl (lv_at hl 1 rfl) ?_
    refine lv_bipush (v := (10 : Int32)) hx hb dX3_behindYear_61 (by decide) ?_
    refine lv_isub hx hb dX3_behindYear_63 ?_
    refine kc_V (As := [.int (x1 - (10 : Int32))]) (rest := []) B (c_X2_has l D cI cO tF (ad 6) (ad 7) (ad 8) (ad 9) (X_then X) (x1 - (10 : Int32)) ) (cwV 1 hts gX3_behindYear_X2_has rfl rfl rfl (by decide +kernel) ⟨Nat.le_of_ble_eq_true rfl, Nat.le_of_ble_eq_true rfl⟩) hP hD hS [6, 7, 8, 9] wX_subH (by decide) (w' := wX ad cI cO X) (wX_sameH) rfl 6 2 rfl rfl rfl rfl hl.1 rfl (Nat.le_of_ble_eq_true rfl) dX3_behindYear_64 ⟨Nat.zero_le _, Nat.zero_le _⟩ (fun H locs hP hD hS => ?_)
    have hD : va_D A (wX ad cI cO X) := hD
    refine lv_if_eq (tgt := 85) hx hb dX3_behindYear_67 (by decide) (fun c_67 => ?_) (fun c_67 => ?_)
    · refine lv_bipush (v := (-9 : Int32)) hx hb dX3_behindYear_85 (by decide) ?_
      have hF : f_X3_behindYear X x1 = (-9 : Int32) := by rw [f_X3_behindYear, if_neg c_1_0, if_pos c_1_1, if_pos c_67]
      rw [hF]
      exact kr_i B hP hS rfl rfl dX3_behindYear_87
    · refine lv_aload_n hx hb dX3_behindYear_70 rfl (lv_at hl 0 rfl) ?_
      refine va_get (D := D) (ci := 3) (v := .ref (ad 6)) (C := RX3) (T := TX3) (N := 7) hx hb hts iw_X3_behindYear_3 hown hK hP 0 rfl rfl 2 (by decide) (hts (.fieldLink RX3 24 "TownLisp" "then" "LTownLisp$Town;") (by decide +kernel)) (fun _ h9 => h9) rfl dX3_behindYear_71 ?_
      refine va_get (D := D) (ci := 2) (v := .ref (ad 8)) (C := RX2) (T := TX2) (N := 6) hx hb hts iw_X3_behindYear_2 hown hK hP 6 rfl rfl 1 (by decide) (hts (.fieldLink RX3 77 "TownLisp$Town" "parts" "[I") (by decide +kernel)) (fun _ h9 => h9) rfl dX3_behindYear_74 ?_
      refine lv_iload_n hx hb dX3_behindYear_77 rfl (lv_at hl 1 rfl) ?_
      refine lv_bipush (v := (10 : Int32)) hx hb dX3_behindYear_78 (by decide) ?_
      refine lv_isub hx hb dX3_behindYear_80 ?_
      refine va_iald hx hb hK hP 8 0 rfl rfl (has_in hnt c_67) dX3_behindYear_81 ?_
      refine lv_goto (tgt := 87) hx hb dX3_behindYear_82 (by decide) ?_
      have hF : f_X3_behindYear X x1 = ((T_parts (X_then X)) (x1 - (10 : Int32)).toNatClampNeg) := by rw [f_X3_behindYear, if_neg c_1_0, if_pos c_1_1, if_neg c_67]
      rw [hF]
      exact kr_i B hP hS rfl rfl dX3_behindYear_87
  by_cases c_1_2 : x1 = (2 : Int32)
  · refine lv_tableIn (off := 39) (tgt := 40) hx hb dX3_behindYear_1 (by rw [c_1_2]; decide) (by rw [c_1_2]; decide) (by rw [c_1_2]; rfl) (by decide) ?_
    refine lv_aload_n hx hb dX3_behindYear_40 rfl (lv_at hl 0 rfl) ?_
    refine va_get (D := D) (ci := 3) (v := .ref (ad 6)) (C := RX3) (T := TX3) (N := 7) hx hb hts iw_X3_behindYear_3 hown hK hP 0 rfl rfl 2 (by decide) (hts (.fieldLink RX3 24 "TownLisp" "then" "LTownLisp$Town;") (by decide +kernel)) (fun _ h9 => h9) rfl dX3_behindYear_41 ?_
    refine va_get (D := D) (ci := 2) (v := .int (T_inside (X_then X))) (C := RX2) (T := TX2) (N := 6) hx hb hts iw_X3_behindYear_2 hown hK hP 6 rfl rfl 4 (by decide) (hts (.fieldLink RX3 93 "TownLisp$Town" "inside" "I") (by decide +kernel)) (fun _ h9 => h9) rfl dX3_behindYear_44 ?_
    have hF : f_X3_behindYear X x1 = (T_inside (X_then X)) := by rw [f_X3_behindYear, if_neg c_1_0, if_neg c_1_1, if_pos c_1_2]
    rw [hF]
    exact kr_i B hP hS rfl rfl dX3_behindYear_47
  by_cases c_1_3 : x1 = (3 : Int32)
  · refine lv_tableIn (off := 47) (tgt := 48) hx hb dX3_behindYear_1 (by rw [c_1_3]; decide) (by rw [c_1_3]; decide) (by rw [c_1_3]; rfl) (by decide) ?_
    refine lv_aload_n hx hb dX3_behindYear_48 rfl (lv_at hl 0 rfl) ?_
    refine va_get (D := D) (ci := 3) (v := .ref (ad 6)) (C := RX3) (T := TX3) (N := 7) hx hb hts iw_X3_behindYear_3 hown hK hP 0 rfl rfl 2 (by decide) (hts (.fieldLink RX3 24 "TownLisp" "then" "LTownLisp$Town;") (by decide +kernel)) (fun _ h9 => h9) rfl dX3_behindYear_49 ?_
    refine kc_V (As := []) (rest := []) B (c_X2_allSay l D cI cO tF (ad 6) (ad 7) (ad 8) (ad 9) (X_then X) (hnt)) (cwV 0 hts gX3_behindYear_X2_allSay rfl rfl rfl (by decide +kernel) ⟨Nat.le_of_ble_eq_true rfl, Nat.le_of_ble_eq_true rfl⟩) hP hD hS [6, 7, 8, 9] wX_subH (by decide) (w' := wX ad cI cO X) (wX_sameH) rfl 6 2 rfl rfl rfl rfl hl.1 rfl (Nat.le_of_ble_eq_true rfl) dX3_behindYear_52 ⟨Nat.zero_le _, Nat.zero_le _⟩ (fun H locs hP hD hS => ?_)
    have hD : va_D A (wX ad cI cO X) := hD
    have hF : f_X3_behindYear X x1 = (f_X2_allSay (X_then X)) := by rw [f_X3_behindYear, if_neg c_1_0, if_neg c_1_1, if_neg c_1_2, if_pos c_1_3]
    rw [hF]
    exact kr_i B hP hS rfl rfl dX3_behindYear_55
  refine lv_tableOut (tgt := 56) hx hb dX3_behindYear_1 (sw_out4 c_1_0 c_1_1 c_1_2 c_1_3) (by decide) ?_
  refine lv_aload_n hx hb dX3_behindYear_56 rfl (lv_at hl 0 rfl) ?_
  refine va_get (D := D) (ci := 3) (v := .ref (ad 6)) (C := RX3) (T := TX3) (N := 7) hx hb hts iw_X3_behindYear_3 hown hK hP 0 rfl rfl 2 (by decide) (hts (.fieldLink RX3 24 "TownLisp" "then" "LTownLisp$Town;") (by decide +kernel)) (fun _ h9 => h9) rfl dX3_behindYear_57 ?_
  refine lv_iload_n hx hb dX3_behindYear_60 rfl (lv_at hl 1 rfl) ?_
  refine lv_bipush (v := (10 : Int32)) hx hb dX3_behindYear_61 (by decide) ?_
  refine lv_isub hx hb dX3_behindYear_63 ?_
  refine kc_V (As := [.int (x1 - (10 : Int32))]) (rest := []) B (c_X2_has l D cI cO tF (ad 6) (ad 7) (ad 8) (ad 9) (X_then X) (x1 - (10 : Int32)) ) (cwV 1 hts gX3_behindYear_X2_has rfl rfl rfl (by decide +kernel) ⟨Nat.le_of_ble_eq_true rfl, Nat.le_of_ble_eq_true rfl⟩) hP hD hS [6, 7, 8, 9] wX_subH (by decide) (w' := wX ad cI cO X) (wX_sameH) rfl 6 2 rfl rfl rfl rfl hl.1 rfl (Nat.le_of_ble_eq_true rfl) dX3_behindYear_64 ⟨Nat.zero_le _, Nat.zero_le _⟩ (fun H locs hP hD hS => ?_)
  have hD : va_D A (wX ad cI cO X) := hD
  refine lv_if_eq (tgt := 85) hx hb dX3_behindYear_67 (by decide) (fun c_67 => ?_) (fun c_67 => ?_)
  · refine lv_bipush (v := (-9 : Int32)) hx hb dX3_behindYear_85 (by decide) ?_
    have hF : f_X3_behindYear X x1 = (-9 : Int32) := by rw [f_X3_behindYear, if_neg c_1_0, if_neg c_1_1, if_neg c_1_2, if_neg c_1_3, if_pos c_67]
    rw [hF]
    exact kr_i B hP hS rfl rfl dX3_behindYear_87
  · refine lv_aload_n hx hb dX3_behindYear_70 rfl (lv_at hl 0 rfl) ?_
    refine va_get (D := D) (ci := 3) (v := .ref (ad 6)) (C := RX3) (T := TX3) (N := 7) hx hb hts iw_X3_behindYear_3 hown hK hP 0 rfl rfl 2 (by decide) (hts (.fieldLink RX3 24 "TownLisp" "then" "LTownLisp$Town;") (by decide +kernel)) (fun _ h9 => h9) rfl dX3_behindYear_71 ?_
    refine va_get (D := D) (ci := 2) (v := .ref (ad 8)) (C := RX2) (T := TX2) (N := 6) hx hb hts iw_X3_behindYear_2 hown hK hP 6 rfl rfl 1 (by decide) (hts (.fieldLink RX3 77 "TownLisp$Town" "parts" "[I") (by decide +kernel)) (fun _ h9 => h9) rfl dX3_behindYear_74 ?_
    refine lv_iload_n hx hb dX3_behindYear_77 rfl (lv_at hl 1 rfl) ?_
    refine lv_bipush (v := (10 : Int32)) hx hb dX3_behindYear_78 (by decide) ?_
    refine lv_isub hx hb dX3_behindYear_80 ?_
    refine va_iald hx hb hK hP 8 0 rfl rfl (has_in hnt c_67) dX3_behindYear_81 ?_
    refine lv_goto (tgt := 87) hx hb dX3_behindYear_82 (by decide) ?_
    have hF : f_X3_behindYear X x1 = ((T_parts (X_then X)) (x1 - (10 : Int32)).toNatClampNeg) := by rw [f_X3_behindYear, if_neg c_1_0, if_neg c_1_1, if_neg c_1_2, if_neg c_1_3, if_neg c_67]
    rw [hF]
    exact kr_i B hP hS rfl rfl dX3_behindYear_87
