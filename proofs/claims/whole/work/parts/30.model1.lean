def f_X4_fails (M : MS) (x1 : Int32) : Int32 × MS := (((-10 : Int32) - x1), (M_fault' M x1))
theorem iw_X4_fails_4 : ∀ w ∈ wsX40, w ∈ wsX4_fails := fun _ h => List.mem_cons_of_mem _ (List.mem_append_right _ h)
set_option maxHeartbeats 4000000 in
set_option maxRecDepth 100000 in
theorem c_X4_fails (l : Launch) (D : va_G) (cI cO : ClassId) (tF : Nat) (ad : Nat → Nat) (M : MS) (x1 : Int32) : Ct l yX4_fails wsX4_fails ({ frames := 0, cells := 0, slots := 0, locals := 0 }) D cI cO tF [.ref (ad 0), .int x1] (wM ad cI M) (some (.int ((f_X4_fails M x1).1))) (wM ad cI ((f_X4_fails M x1).2)) := by
  refine Ct.of (cc := cX4_fails) (maxL := 2) (ret := (some .int)) (own := RX4) (by decide) rfl rfl (Nat.le_of_ble_eq_true rfl) ?_
  intro p e s m args below meth c A ls B hP hD hS hl
  obtain ⟨hx, hb, hret, hml, hts, hown, hlocks, hE, hA⟩ := id B
  have hK := hE.1
  have hl : lv_has ls 2 [(0, .ref (ad 0)), (1, .int x1)] := hl
  refine lv_aload_n hx hb dX4_fails_0 rfl (lv_at hl 0 rfl) ?_
  refine lv_iload_n hx hb dX4_fails_1 rfl (lv_at hl 1 rfl) ?_
  refine va_put (D := D) (ci := 4) (v := .int x1) (ty := .int) (C := RX4) (T := TX4) (N := 24) hx hb hts iw_X4_fails_4 tyX4 tyX4_ok nmX4 hown hK hP hD hS 0 rfl rfl 0 (by decide) (hts (.fieldLink RX4 46 "TownLispModel" "fault" "I") (by decide +kernel)) (fun _ h9 => h9) rfl (by decide +kernel) rfl rfl (Nat.le_of_ble_eq_true rfl) dX4_fails_2 (fun H locs hP hD hS => ?_)
  have hP : va_P D vwCl (wM ad cI (M_fault' M x1)) H := hP
  have hD : va_D A (wM ad cI (M_fault' M x1)) := hD
  refine lv_bipush (v := (-10 : Int32)) hx hb dX4_fails_5 (by decide) ?_
  refine lv_iload_n hx hb dX4_fails_7 rfl (lv_at hl 1 rfl) ?_
  refine lv_isub hx hb dX4_fails_8 ?_
  have hF : f_X4_fails M x1 = (((-10 : Int32) - x1), (M_fault' M x1)) := by rw [f_X4_fails]
  rw [hF]
  exact kr_i B hP hS rfl rfl dX4_fails_9
def f_X4_lost (M : MS) (x1 : Int32) : Int64 × MS := ((-9223372036854775808 : Int64), (M_fault' M x1))
theorem iw_X4_lost_4 : ∀ w ∈ wsX40, w ∈ wsX4_lost := fun _ h => List.mem_cons_of_mem _ (List.mem_append_right _ h)
set_option maxHeartbeats 4000000 in
set_option maxRecDepth 100000 in
theorem c_X4_lost (l : Launch) (D : va_G) (cI cO : ClassId) (tF : Nat) (ad : Nat → Nat) (M : MS) (x1 : Int32) : Ct l yX4_lost wsX4_lost ({ frames := 0, cells := 0, slots := 0, locals := 0 }) D cI cO tF [.ref (ad 0), .int x1] (wM ad cI M) (some (.long ((f_X4_lost M x1).1))) (wM ad cI ((f_X4_lost M x1).2)) := by
  refine Ct.of (cc := cX4_lost) (maxL := 2) (ret := (some .long)) (own := RX4) (by decide) rfl rfl (Nat.le_of_ble_eq_true rfl) ?_
  intro p e s m args below meth c A ls B hP hD hS hl
  obtain ⟨hx, hb, hret, hml, hts, hown, hlocks, hE, hA⟩ := id B
  have hK := hE.1
  have hl : lv_has ls 2 [(0, .ref (ad 0)), (1, .int x1)] := hl
  refine lv_aload_n hx hb dX4_lost_0 rfl (lv_at hl 0 rfl) ?_
  refine lv_iload_n hx hb dX4_lost_1 rfl (lv_at hl 1 rfl) ?_
  refine va_put (D := D) (ci := 4) (v := .int x1) (ty := .int) (C := RX4) (T := TX4) (N := 24) hx hb hts iw_X4_lost_4 tyX4 tyX4_ok nmX4 hown hK hP hD hS 0 rfl rfl 0 (by decide) (hts (.fieldLink RX4 46 "TownLispModel" "fault" "I") (by decide +kernel)) (fun _ h9 => h9) rfl (by decide +kernel) rfl rfl (Nat.le_of_ble_eq_true rfl) dX4_lost_2 (fun H locs hP hD hS => ?_)
  have hP : va_P D vwCl (wM ad cI (M_fault' M x1)) H := hP
  have hD : va_D A (wM ad cI (M_fault' M x1)) := hD
  refine lv_ldc2 hx hb hown (hts (.constantLong RX4 50 (-9223372036854775808 : Int64)) (by decide +kernel)) dX4_lost_5 ?_
  have hF : f_X4_lost M x1 = ((-9223372036854775808 : Int64), (M_fault' M x1)) := by rw [f_X4_lost]
  rw [hF]
  exact kr_l B hP hS rfl rfl dX4_lost_8
def f_X4_begins (M : MS) (x1 : Int32) : MS := (M_trace' M (((31 : Int32) * (M_trace M)) + x1))
theorem iw_X4_begins_4 : ∀ w ∈ wsX40, w ∈ wsX4_begins := fun _ h => List.mem_cons_of_mem _ (List.mem_append_right _ h)
set_option maxHeartbeats 4000000 in
set_option maxRecDepth 100000 in
theorem c_X4_begins (l : Launch) (D : va_G) (cI cO : ClassId) (tF : Nat) (ad : Nat → Nat) (M : MS) (x1 : Int32) : Ct l yX4_begins wsX4_begins ({ frames := 0, cells := 0, slots := 0, locals := 0 }) D cI cO tF [.ref (ad 0), .int x1] (wM ad cI M) none (wM ad cI (f_X4_begins M x1)) := by
  refine Ct.of (cc := cX4_begins) (maxL := 2) (ret := none) (own := RX4) (by decide) rfl rfl (Nat.le_of_ble_eq_true rfl) ?_
  intro p e s m args below meth c A ls B hP hD hS hl
  obtain ⟨hx, hb, hret, hml, hts, hown, hlocks, hE, hA⟩ := id B
  have hK := hE.1
  have hl : lv_has ls 2 [(0, .ref (ad 0)), (1, .int x1)] := hl
  refine lv_aload_n hx hb dX4_begins_0 rfl (lv_at hl 0 rfl) ?_
  refine lv_bipush (v := (31 : Int32)) hx hb dX4_begins_1 (by decide) ?_
  refine lv_aload_n hx hb dX4_begins_3 rfl (lv_at hl 0 rfl) ?_
  refine va_get (D := D) (ci := 4) (v := .int (M_trace M)) (C := RX4) (T := TX4) (N := 24) hx hb hts iw_X4_begins_4 hown hK hP 0 rfl rfl 1 (by decide) (hts (.fieldLink RX4 194 "TownLispModel" "trace" "I") (by decide +kernel)) (fun _ h9 => h9) rfl dX4_begins_4 ?_
  refine lv_imul hx hb dX4_begins_7 ?_
  refine lv_iload_n hx hb dX4_begins_8 rfl (lv_at hl 1 rfl) ?_
  refine lv_iadd hx hb dX4_begins_9 ?_
  refine va_put (D := D) (ci := 4) (v := .int (((31 : Int32) * (M_trace M)) + x1)) (ty := .int) (C := RX4) (T := TX4) (N := 24) hx hb hts iw_X4_begins_4 tyX4 tyX4_ok nmX4 hown hK hP hD hS 0 rfl rfl 1 (by decide) (hts (.fieldLink RX4 194 "TownLispModel" "trace" "I") (by decide +kernel)) (fun _ h9 => h9) rfl (by decide +kernel) rfl rfl (Nat.le_of_ble_eq_true rfl) dX4_begins_10 (fun H locs hP hD hS => ?_)
  have hP : va_P D vwCl (wM ad cI (M_trace' M (((31 : Int32) * (M_trace M)) + x1))) H := hP
  have hD : va_D A (wM ad cI (M_trace' M (((31 : Int32) * (M_trace M)) + x1))) := hD
  have hF : f_X4_begins M x1 = (M_trace' M (((31 : Int32) * (M_trace M)) + x1)) := by rw [f_X4_begins]
  rw [hF]
  exact kr_v B hP hS rfl dX4_begins_13
def f_X4_within (x0 : Int32) (x1 : Int32) (x2 : Int32) : Int32 := (if x0 < x1 then (0 : Int32) else (if x2 < x0 then (0 : Int32) else (1 : Int32)))
theorem bb_X4_within (x0 : Int32) (x1 : Int32) (x2 : Int32) : f_X4_within x0 x1 x2 = 0 ∨ f_X4_within x0 x1 x2 = 1 := by
  unfold f_X4_within
  repeat' split
  all_goals first | exact Or.inl rfl | exact Or.inr rfl
set_option maxHeartbeats 4000000 in
set_option maxRecDepth 100000 in
theorem c_X4_within (l : Launch) (D : va_G) (cI cO : ClassId) (tF : Nat) (x0 : Int32) (x1 : Int32) (x2 : Int32) : Ct l yX4_within wsX4_within ({ frames := 0, cells := 0, slots := 0, locals := 0 }) D cI cO tF [.int x0, .int x1, .int x2] ([]) (some (.int (f_X4_within x0 x1 x2))) ([]) := by
  refine Ct.of (cc := cX4_within) (maxL := 3) (ret := (some .boolean)) (own := RX4) (by decide) rfl rfl (Nat.le_of_ble_eq_true rfl) ?_
  intro p e s m args below meth c A ls B hP hD hS hl
  obtain ⟨hx, hb, hret, hml, hts, hown, hlocks, hE, hA⟩ := id B
  have hK := hE.1
  have hl : lv_has ls 3 [(0, .int x0), (1, .int x1), (2, .int x2)] := hl
  refine lv_iload_n hx hb dX4_within_0 rfl (lv_at hl 0 rfl) ?_
  refine lv_iload_n hx hb dX4_within_1 rfl (lv_at hl 1 rfl) ?_
  refine lv_icmp_lt (tgt := 14) hx hb dX4_within_2 (by decide) (fun c_2 => ?_) (fun c_2 => ?_)
  · refine lv_iconst (v := (0 : Int32)) hx hb dX4_within_14 (by decide) ?_
    have hF : f_X4_within x0 x1 x2 = (0 : Int32) := by rw [f_X4_within, if_pos c_2]
    rw [hF]
    exact kr_z B hP hS rfl rfl (Or.inl rfl) dX4_within_15
  · refine lv_iload_n hx hb dX4_within_5 rfl (lv_at hl 0 rfl) ?_
    refine lv_iload_n hx hb dX4_within_6 rfl (lv_at hl 2 rfl) ?_
    refine lv_icmp_gt (tgt := 14) hx hb dX4_within_7 (by decide) (fun c_7 => ?_) (fun c_7 => ?_)
    · refine lv_iconst (v := (0 : Int32)) hx hb dX4_within_14 (by decide) ?_
      have hF : f_X4_within x0 x1 x2 = (0 : Int32) := by rw [f_X4_within, if_neg c_2, if_pos c_7]
      rw [hF]
      exact kr_z B hP hS rfl rfl (Or.inl rfl) dX4_within_15
    · refine lv_iconst (v := (1 : Int32)) hx hb dX4_within_10 (by decide) ?_
      refine lv_goto (tgt := 15) hx hb dX4_within_11 (by decide) ?_
      have hF : f_X4_within x0 x1 x2 = (1 : Int32) := by rw [f_X4_within, if_neg c_2, if_neg c_7]
      rw [hF]
      exact kr_z B hP hS rfl rfl (Or.inr rfl) dX4_within_15
def f_X4_isSheet (x0 : Int32) : Int32 := (f_X4_within x0 (0 : Int32) (3 : Int32))
theorem bb_X4_isSheet (x0 : Int32) : f_X4_isSheet x0 = 0 ∨ f_X4_isSheet x0 = 1 := by
  unfold f_X4_isSheet
  repeat' split
  all_goals first | exact Or.inl rfl | exact Or.inr rfl | exact bb_X4_within _ _ _
set_option maxHeartbeats 4000000 in
set_option maxRecDepth 100000 in
theorem c_X4_isSheet (l : Launch) (D : va_G) (cI cO : ClassId) (tF : Nat) (x0 : Int32) : Ct l yX4_isSheet wsX4_isSheet ({ frames := 1, cells := 0, slots := 0, locals := 22 }) D cI cO tF [.int x0] ([]) (some (.int (f_X4_isSheet x0))) ([]) := by
  refine Ct.of (cc := cX4_isSheet) (maxL := 1) (ret := (some .boolean)) (own := RX4) (by decide) rfl rfl (Nat.le_of_ble_eq_true rfl) ?_
  intro p e s m args below meth c A ls B hP hD hS hl
  obtain ⟨hx, hb, hret, hml, hts, hown, hlocks, hE, hA⟩ := id B
  have hK := hE.1
  have hl : lv_has ls 1 [(0, .int x0)] := hl
  refine lv_iload_n hx hb dX4_isSheet_0 rfl (lv_at hl 0 rfl) ?_
  refine lv_iconst (v := (0 : Int32)) hx hb dX4_isSheet_1 (by decide) ?_
  refine lv_iconst (v := (3 : Int32)) hx hb dX4_isSheet_2 (by decide) ?_
  refine kc_S (As := [.int x0, .int (0 : Int32), .int (3 : Int32)]) (rest := []) B (c_X4_within l D cI cO tF x0 (0 : Int32) (3 : Int32) ) (va_cwS 3 hts gX4_isSheet_X4_within rfl rfl rfl (by decide +kernel) ⟨Nat.le_of_ble_eq_true rfl, Nat.le_of_ble_eq_true rfl⟩) hP hD hS [] rfl (by decide) (w' := []) rfl rfl rfl hl.1 rfl (Nat.le_of_ble_eq_true rfl) dX4_isSheet_3 ⟨Nat.zero_le _, Nat.zero_le _⟩ (fun H locs hP hD hS => ?_)
  have hD : va_D A ([]) := hD
  have hF : f_X4_isSheet x0 = (f_X4_within x0 (0 : Int32) (3 : Int32)) := by rw [f_X4_isSheet]
  rw [hF]
  exact kr_z B hP hS rfl rfl (bb_X4_within _ _ _) dX4_isSheet_6
def f_X4_isSort (x0 : Int32) : Int32 := (f_X4_within x0 (0 : Int32) (2 : Int32))
theorem bb_X4_isSort (x0 : Int32) : f_X4_isSort x0 = 0 ∨ f_X4_isSort x0 = 1 := by
  unfold f_X4_isSort
  repeat' split
  all_goals first | exact Or.inl rfl | exact Or.inr rfl | exact bb_X4_within _ _ _
set_option maxHeartbeats 4000000 in
set_option maxRecDepth 100000 in
theorem c_X4_isSort (l : Launch) (D : va_G) (cI cO : ClassId) (tF : Nat) (x0 : Int32) : Ct l yX4_isSort wsX4_isSort ({ frames := 1, cells := 0, slots := 0, locals := 22 }) D cI cO tF [.int x0] ([]) (some (.int (f_X4_isSort x0))) ([]) := by
  refine Ct.of (cc := cX4_isSort) (maxL := 1) (ret := (some .boolean)) (own := RX4) (by decide) rfl rfl (Nat.le_of_ble_eq_true rfl) ?_
  intro p e s m args below meth c A ls B hP hD hS hl
  obtain ⟨hx, hb, hret, hml, hts, hown, hlocks, hE, hA⟩ := id B
  have hK := hE.1
  have hl : lv_has ls 1 [(0, .int x0)] := hl
  refine lv_iload_n hx hb dX4_isSort_0 rfl (lv_at hl 0 rfl) ?_
  refine lv_iconst (v := (0 : Int32)) hx hb dX4_isSort_1 (by decide) ?_
  refine lv_iconst (v := (2 : Int32)) hx hb dX4_isSort_2 (by decide) ?_
  refine kc_S (As := [.int x0, .int (0 : Int32), .int (2 : Int32)]) (rest := []) B (c_X4_within l D cI cO tF x0 (0 : Int32) (2 : Int32) ) (va_cwS 3 hts gX4_isSort_X4_within rfl rfl rfl (by decide +kernel) ⟨Nat.le_of_ble_eq_true rfl, Nat.le_of_ble_eq_true rfl⟩) hP hD hS [] rfl (by decide) (w' := []) rfl rfl rfl hl.1 rfl (Nat.le_of_ble_eq_true rfl) dX4_isSort_3 ⟨Nat.zero_le _, Nat.zero_le _⟩ (fun H locs hP hD hS => ?_)
  have hD : va_D A ([]) := hD
  have hF : f_X4_isSort x0 = (f_X4_within x0 (0 : Int32) (2 : Int32)) := by rw [f_X4_isSort]
  rw [hF]
  exact kr_z B hP hS rfl rfl (bb_X4_within _ _ _) dX4_isSort_6
def f_X4_isOf (x0 : Int32) (x1 : Int32) : Int32 := (if ((x0 >>> (x1 &&& 31)) &&& (1 : Int32)) = (1 : Int32) then (1 : Int32) else (0 : Int32))
theorem bb_X4_isOf (x0 : Int32) (x1 : Int32) : f_X4_isOf x0 x1 = 0 ∨ f_X4_isOf x0 x1 = 1 := by
  unfold f_X4_isOf
  repeat' split
  all_goals first | exact Or.inl rfl | exact Or.inr rfl
set_option maxHeartbeats 4000000 in
set_option maxRecDepth 100000 in
theorem c_X4_isOf (l : Launch) (D : va_G) (cI cO : ClassId) (tF : Nat) (x0 : Int32) (x1 : Int32) : Ct l yX4_isOf wsX4_isOf ({ frames := 0, cells := 0, slots := 0, locals := 0 }) D cI cO tF [.int x0, .int x1] ([]) (some (.int (f_X4_isOf x0 x1))) ([]) := by
  refine Ct.of (cc := cX4_isOf) (maxL := 2) (ret := (some .boolean)) (own := RX4) (by decide) rfl rfl (Nat.le_of_ble_eq_true rfl) ?_
  intro p e s m args below meth c A ls B hP hD hS hl
  obtain ⟨hx, hb, hret, hml, hts, hown, hlocks, hE, hA⟩ := id B
  have hK := hE.1
  have hl : lv_has ls 2 [(0, .int x0), (1, .int x1)] := hl
  refine lv_iload_n hx hb dX4_isOf_0 rfl (lv_at hl 0 rfl) ?_
  refine lv_iload_n hx hb dX4_isOf_1 rfl (lv_at hl 1 rfl) ?_
  refine lv_ishr hx hb dX4_isOf_2 ?_
  refine lv_iconst (v := (1 : Int32)) hx hb dX4_isOf_3 (by decide) ?_
  refine lv_iand hx hb dX4_isOf_4 ?_
  refine lv_iconst (v := (1 : Int32)) hx hb dX4_isOf_5 (by decide) ?_
  refine lv_icmp_ne (tgt := 13) hx hb dX4_isOf_6 (by decide) (fun c_6 => ?_) (fun c_6 => ?_)
  · refine lv_iconst (v := (0 : Int32)) hx hb dX4_isOf_13 (by decide) ?_
    have hF : f_X4_isOf x0 x1 = (0 : Int32) := by rw [f_X4_isOf, if_neg c_6]
    rw [hF]
    exact kr_z B hP hS rfl rfl (Or.inl rfl) dX4_isOf_14
  · refine lv_iconst (v := (1 : Int32)) hx hb dX4_isOf_9 (by decide) ?_
    refine lv_goto (tgt := 14) hx hb dX4_isOf_10 (by decide) ?_
    have hF : f_X4_isOf x0 x1 = (1 : Int32) := by rw [f_X4_isOf, if_pos c_6]
    rw [hF]
    exact kr_z B hP hS rfl rfl (Or.inr rfl) dX4_isOf_14
def f_X4_isPerson (M : MS) (x1 : Int32) : Int32 := (if x1 < 0 then (0 : Int32) else (if (M_people M) ≤ x1 then (0 : Int32) else (1 : Int32)))
theorem iw_X4_isPerson_4 : ∀ w ∈ wsX40, w ∈ wsX4_isPerson := fun _ h => List.mem_cons_of_mem _ (List.mem_append_right _ h)
theorem bb_X4_isPerson (M : MS) (x1 : Int32) : f_X4_isPerson M x1 = 0 ∨ f_X4_isPerson M x1 = 1 := by
  unfold f_X4_isPerson
  repeat' split
  all_goals first | exact Or.inl rfl | exact Or.inr rfl
set_option maxHeartbeats 4000000 in
set_option maxRecDepth 100000 in
theorem c_X4_isPerson (l : Launch) (D : va_G) (cI cO : ClassId) (tF : Nat) (ad : Nat → Nat) (M : MS) (x1 : Int32) : Ct l yX4_isPerson wsX4_isPerson ({ frames := 0, cells := 0, slots := 0, locals := 0 }) D cI cO tF [.ref (ad 0), .int x1] (wM ad cI M) (some (.int (f_X4_isPerson M x1))) (wM ad cI M) := by
  refine Ct.of (cc := cX4_isPerson) (maxL := 2) (ret := (some .boolean)) (own := RX4) (by decide) rfl rfl (Nat.le_of_ble_eq_true rfl) ?_
  intro p e s m args below meth c A ls B hP hD hS hl
  obtain ⟨hx, hb, hret, hml, hts, hown, hlocks, hE, hA⟩ := id B
  have hK := hE.1
  have hl : lv_has ls 2 [(0, .ref (ad 0)), (1, .int x1)] := hl
  refine lv_iload_n hx hb dX4_isPerson_0 rfl (lv_at hl 1 rfl) ?_
  refine lv_if_lt (tgt := 16) hx hb dX4_isPerson_1 (by decide) (fun c_1 => ?_) (fun c_1 => ?_)
  · refine lv_iconst (v := (0 : Int32)) hx hb dX4_isPerson_16 (by decide) ?_
    have hF : f_X4_isPerson M x1 = (0 : Int32) := by rw [f_X4_isPerson, if_pos c_1]
    rw [hF]
    exact kr_z B hP hS rfl rfl (Or.inl rfl) dX4_isPerson_17
  · refine lv_iload_n hx hb dX4_isPerson_4 rfl (lv_at hl 1 rfl) ?_
    refine lv_aload_n hx hb dX4_isPerson_5 rfl (lv_at hl 0 rfl) ?_
    refine va_get (D := D) (ci := 4) (v := .int (M_people M)) (C := RX4) (T := TX4) (N := 24) hx hb hts iw_X4_isPerson_4 hown hK hP 0 rfl rfl 5 (by decide) (hts (.fieldLink RX4 56 "TownLispModel" "people" "I") (by decide +kernel)) (fun _ h9 => h9) rfl dX4_isPerson_6 ?_
    refine lv_icmp_ge (tgt := 16) hx hb dX4_isPerson_9 (by decide) (fun c_9 => ?_) (fun c_9 => ?_)
    · refine lv_iconst (v := (0 : Int32)) hx hb dX4_isPerson_16 (by decide) ?_
      have hF : f_X4_isPerson M x1 = (0 : Int32) := by rw [f_X4_isPerson, if_neg c_1, if_pos c_9]
      rw [hF]
      exact kr_z B hP hS rfl rfl (Or.inl rfl) dX4_isPerson_17
    · refine lv_iconst (v := (1 : Int32)) hx hb dX4_isPerson_12 (by decide) ?_
      refine lv_goto (tgt := 17) hx hb dX4_isPerson_13 (by decide) ?_
      have hF : f_X4_isPerson M x1 = (1 : Int32) := by rw [f_X4_isPerson, if_neg c_1, if_neg c_9]
      rw [hF]
      exact kr_z B hP hS rfl rfl (Or.inr rfl) dX4_isPerson_17
def f_X4_against (M : MS) (x1 : Int32) (x2 : Int32) (x3 : Int32) (x4 : Int32) : Int32 := (if ((M_sorts M) x1.toNatClampNeg) = (-9 : Int32) then (if ((M_sorts M) x1.toNatClampNeg) = (-9 : Int32) then (1 : Int32) else (if 0 ≤ x4 then (if x3 < 0 then (3 : Int32) else (if ((M_sheetLong M) x1.toNatClampNeg) < x3 then (3 : Int32) else (if x4 ≤ (((M_sheetLong M) x1.toNatClampNeg) - x3) then (0 : Int32) else (3 : Int32)))) else (4 : Int32))) else (if ((M_sorts M) x1.toNatClampNeg) = x2 then (if ((M_sorts M) x1.toNatClampNeg) = (-9 : Int32) then (1 : Int32) else (if 0 ≤ x4 then (if x3 < 0 then (3 : Int32) else (if ((M_sheetLong M) x1.toNatClampNeg) < x3 then (3 : Int32) else (if x4 ≤ (((M_sheetLong M) x1.toNatClampNeg) - x3) then (0 : Int32) else (3 : Int32)))) else (4 : Int32))) else (2 : Int32)))
theorem iw_X4_against_4 : ∀ w ∈ wsX40, w ∈ wsX4_against := fun _ h => List.mem_cons_of_mem _ (List.mem_append_right _ h)
set_option maxHeartbeats 4000000 in
set_option maxRecDepth 100000 in
theorem c_X4_against (l : Launch) (D : va_G) (cI cO : ClassId) (tF : Nat) (ad : Nat → Nat) (M : MS) (x1 : Int32) (x2 : Int32) (x3 : Int32) (x4 : Int32) (hs : vp_in x1 4) : Ct l yX4_against wsX4_against ({ frames := 0, cells := 0, slots := 0, locals := 0 }) D cI cO tF [.ref (ad 0), .int x1, .int x2, .int x3, .int x4] (wM ad cI M) (some (.int (f_X4_against M x1 x2 x3 x4))) (wM ad cI M) := by
  refine Ct.of (cc := cX4_against) (maxL := 5) (ret := (some .int)) (own := RX4) (by decide) rfl rfl (Nat.le_of_ble_eq_true rfl) ?_
  intro p e s m args below meth c A ls B hP hD hS hl
  obtain ⟨hx, hb, hret, hml, hts, hown, hlocks, hE, hA⟩ := id B
  have hK := hE.1
  have hl : lv_has ls 5 [(0, .ref (ad 0)), (1, .int x1), (2, .int x2), (3, .int x3), (4, .int x4)] := hl
  refine lv_aload_n hx hb dX4_against_0 rfl (lv_at hl 0 rfl) ?_
  refine va_get (D := D) (ci := 4) (v := .ref (ad 1)) (C := RX4) (T := TX4) (N := 24) hx hb hts iw_X4_against_4 hown hK hP 0 rfl rfl 2 (by decide) (hts (.fieldLink RX4 9 "TownLispModel" "sorts" "[I") (by decide +kernel)) (fun _ h9 => h9) rfl dX4_against_1 ?_
  refine lv_iload_n hx hb dX4_against_4 rfl (lv_at hl 1 rfl) ?_
  refine va_iald hx hb hK hP 1 0 rfl rfl (hs) dX4_against_5 ?_
  refine lv_bipush (v := (-9 : Int32)) hx hb dX4_against_6 (by decide) ?_
  refine lv_icmp_eq (tgt := 23) hx hb dX4_against_8 (by decide) (fun c_8 => ?_) (fun c_8 => ?_)
  · refine lv_aload_n hx hb dX4_against_23 rfl (lv_at hl 0 rfl) ?_
    refine va_get (D := D) (ci := 4) (v := .ref (ad 1)) (C := RX4) (T := TX4) (N := 24) hx hb hts iw_X4_against_4 hown hK hP 0 rfl rfl 2 (by decide) (hts (.fieldLink RX4 9 "TownLispModel" "sorts" "[I") (by decide +kernel)) (fun _ h9 => h9) rfl dX4_against_24 ?_
    refine lv_iload_n hx hb dX4_against_27 rfl (lv_at hl 1 rfl) ?_
    refine va_iald hx hb hK hP 1 0 rfl rfl (hs) dX4_against_28 ?_
    refine lv_bipush (v := (-9 : Int32)) hx hb dX4_against_29 (by decide) ?_
    refine lv_icmp_ne (tgt := 36) hx hb dX4_against_31 (by decide) (fun c_31 => ?_) (fun c_31 => ?_)
    · refine lv_iload hx hb dX4_against_36 (lv_at hl 4 rfl) ?_
      refine lv_if_ge (tgt := 43) hx hb dX4_against_38 (by decide) (fun c_38 => ?_) (fun c_38 => ?_)
      · refine lv_iload_n hx hb dX4_against_43 rfl (lv_at hl 3 rfl) ?_
        refine lv_if_lt (tgt := 70) hx hb dX4_against_44 (by decide) (fun c_44 => ?_) (fun c_44 => ?_)
        · refine lv_iconst (v := (3 : Int32)) hx hb dX4_against_70 (by decide) ?_
          refine lv_goto (tgt := 75) hx hb dX4_against_71 (by decide) ?_
          have hF : f_X4_against M x1 x2 x3 x4 = (3 : Int32) := by rw [f_X4_against, if_pos c_8, if_neg c_31, if_pos c_38, if_pos c_44]
          rw [hF]
          exact kr_i B hP hS rfl rfl dX4_against_75
        · refine lv_iload_n hx hb dX4_against_47 rfl (lv_at hl 3 rfl) ?_
          refine lv_aload_n hx hb dX4_against_48 rfl (lv_at hl 0 rfl) ?_
          refine va_get (D := D) (ci := 4) (v := .ref (ad 2)) (C := RX4) (T := TX4) (N := 24) hx hb hts iw_X4_against_4 hown hK hP 0 rfl rfl 3 (by decide) (hts (.fieldLink RX4 13 "TownLispModel" "sheetLong" "[I") (by decide +kernel)) (fun _ h9 => h9) rfl dX4_against_49 ?_
          refine lv_iload_n hx hb dX4_against_52 rfl (lv_at hl 1 rfl) ?_
          refine va_iald hx hb hK hP 2 0 rfl rfl (hs) dX4_against_53 ?_
          refine lv_icmp_gt (tgt := 70) hx hb dX4_against_54 (by decide) (fun c_54 => ?_) (fun c_54 => ?_)
          · refine lv_iconst (v := (3 : Int32)) hx hb dX4_against_70 (by decide) ?_
            refine lv_goto (tgt := 75) hx hb dX4_against_71 (by decide) ?_
            have hF : f_X4_against M x1 x2 x3 x4 = (3 : Int32) := by rw [f_X4_against, if_pos c_8, if_neg c_31, if_pos c_38, if_neg c_44, if_pos c_54]
            rw [hF]
            exact kr_i B hP hS rfl rfl dX4_against_75
          · refine lv_iload hx hb dX4_against_57 (lv_at hl 4 rfl) ?_
            refine lv_aload_n hx hb dX4_against_59 rfl (lv_at hl 0 rfl) ?_
            refine va_get (D := D) (ci := 4) (v := .ref (ad 2)) (C := RX4) (T := TX4) (N := 24) hx hb hts iw_X4_against_4 hown hK hP 0 rfl rfl 3 (by decide) (hts (.fieldLink RX4 13 "TownLispModel" "sheetLong" "[I") (by decide +kernel)) (fun _ h9 => h9) rfl dX4_against_60 ?_
            refine lv_iload_n hx hb dX4_against_63 rfl (lv_at hl 1 rfl) ?_
            refine va_iald hx hb hK hP 2 0 rfl rfl (hs) dX4_against_64 ?_
            refine lv_iload_n hx hb dX4_against_65 rfl (lv_at hl 3 rfl) ?_
            refine lv_isub hx hb dX4_against_66 ?_
            refine lv_icmp_le (tgt := 74) hx hb dX4_against_67 (by decide) (fun c_67 => ?_) (fun c_67 => ?_)
            · refine lv_iconst (v := (0 : Int32)) hx hb dX4_against_74 (by decide) ?_
              have hF : f_X4_against M x1 x2 x3 x4 = (0 : Int32) := by rw [f_X4_against, if_pos c_8, if_neg c_31, if_pos c_38, if_neg c_44, if_neg c_54, if_pos c_67]
              rw [hF]
              exact kr_i B hP hS rfl rfl dX4_against_75
            · refine lv_iconst (v := (3 : Int32)) hx hb dX4_against_70 (by decide) ?_
              refine lv_goto (tgt := 75) hx hb dX4_against_71 (by decide) ?_
              have hF : f_X4_against M x1 x2 x3 x4 = (3 : Int32) := by rw [f_X4_against, if_pos c_8, if_neg c_31, if_pos c_38, if_neg c_44, if_neg c_54, if_neg c_67]
              rw [hF]
              exact kr_i B hP hS rfl rfl dX4_against_75
      · refine lv_iconst (v := (4 : Int32)) hx hb dX4_against_41 (by decide) ?_
        have hF : f_X4_against M x1 x2 x3 x4 = (4 : Int32) := by rw [f_X4_against, if_pos c_8, if_neg c_31, if_neg c_38]
        rw [hF]
        exact kr_i B hP hS rfl rfl dX4_against_42
    · refine lv_iconst (v := (1 : Int32)) hx hb dX4_against_34 (by decide) ?_
      have hF : f_X4_against M x1 x2 x3 x4 = (1 : Int32) := by rw [f_X4_against, if_pos c_8, if_pos c_31]
      rw [hF]
      exact kr_i B hP hS rfl rfl dX4_against_35
  · refine lv_aload_n hx hb dX4_against_11 rfl (lv_at hl 0 rfl) ?_
    refine va_get (D := D) (ci := 4) (v := .ref (ad 1)) (C := RX4) (T := TX4) (N := 24) hx hb hts iw_X4_against_4 hown hK hP 0 rfl rfl 2 (by decide) (hts (.fieldLink RX4 9 "TownLispModel" "sorts" "[I") (by decide +kernel)) (fun _ h9 => h9) rfl dX4_against_12 ?_
    refine lv_iload_n hx hb dX4_against_15 rfl (lv_at hl 1 rfl) ?_
    refine va_iald hx hb hK hP 1 0 rfl rfl (hs) dX4_against_16 ?_
    refine lv_iload_n hx hb dX4_against_17 rfl (lv_at hl 2 rfl) ?_
    refine lv_icmp_eq (tgt := 23) hx hb dX4_against_18 (by decide) (fun c_18 => ?_) (fun c_18 => ?_)
    · refine lv_aload_n hx hb dX4_against_23 rfl (lv_at hl 0 rfl) ?_
      refine va_get (D := D) (ci := 4) (v := .ref (ad 1)) (C := RX4) (T := TX4) (N := 24) hx hb hts iw_X4_against_4 hown hK hP 0 rfl rfl 2 (by decide) (hts (.fieldLink RX4 9 "TownLispModel" "sorts" "[I") (by decide +kernel)) (fun _ h9 => h9) rfl dX4_against_24 ?_
      refine lv_iload_n hx hb dX4_against_27 rfl (lv_at hl 1 rfl) ?_
      refine va_iald hx hb hK hP 1 0 rfl rfl (hs) dX4_against_28 ?_
      refine lv_bipush (v := (-9 : Int32)) hx hb dX4_against_29 (by decide) ?_
      refine lv_icmp_ne (tgt := 36) hx hb dX4_against_31 (by decide) (fun c_31 => ?_) (fun c_31 => ?_)
      · refine lv_iload hx hb dX4_against_36 (lv_at hl 4 rfl) ?_
        refine lv_if_ge (tgt := 43) hx hb dX4_against_38 (by decide) (fun c_38 => ?_) (fun c_38 => ?_)
        · refine lv_iload_n hx hb dX4_against_43 rfl (lv_at hl 3 rfl) ?_
          refine lv_if_lt (tgt := 70) hx hb dX4_against_44 (by decide) (fun c_44 => ?_) (fun c_44 => ?_)
          · refine lv_iconst (v := (3 : Int32)) hx hb dX4_against_70 (by decide) ?_
            refine lv_goto (tgt := 75) hx hb dX4_against_71 (by decide) ?_
            have hF : f_X4_against M x1 x2 x3 x4 = (3 : Int32) := by rw [f_X4_against, if_neg c_8, if_pos c_18, if_neg c_31, if_pos c_38, if_pos c_44]
            rw [hF]
            exact kr_i B hP hS rfl rfl dX4_against_75
          · refine lv_iload_n hx hb dX4_against_47 rfl (lv_at hl 3 rfl) ?_
            refine lv_aload_n hx hb dX4_against_48 rfl (lv_at hl 0 rfl) ?_
            refine va_get (D := D) (ci := 4) (v := .ref (ad 2)) (C := RX4) (T := TX4) (N := 24) hx hb hts iw_X4_against_4 hown hK hP 0 rfl rfl 3 (by decide) (hts (.fieldLink RX4 13 "TownLispModel" "sheetLong" "[I") (by decide +kernel)) (fun _ h9 => h9) rfl dX4_against_49 ?_
            refine lv_iload_n hx hb dX4_against_52 rfl (lv_at hl 1 rfl) ?_
            refine va_iald hx hb hK hP 2 0 rfl rfl (hs) dX4_against_53 ?_
            refine lv_icmp_gt (tgt := 70) hx hb dX4_against_54 (by decide) (fun c_54 => ?_) (fun c_54 => ?_)
            · refine lv_iconst (v := (3 : Int32)) hx hb dX4_against_70 (by decide) ?_
              refine lv_goto (tgt := 75) hx hb dX4_against_71 (by decide) ?_
              have hF : f_X4_against M x1 x2 x3 x4 = (3 : Int32) := by rw [f_X4_against, if_neg c_8, if_pos c_18, if_neg c_31, if_pos c_38, if_neg c_44, if_pos c_54]
              rw [hF]
              exact kr_i B hP hS rfl rfl dX4_against_75
            · refine lv_iload hx hb dX4_against_57 (lv_at hl 4 rfl) ?_
              refine lv_aload_n hx hb dX4_against_59 rfl (lv_at hl 0 rfl) ?_
              refine va_get (D := D) (ci := 4) (v := .ref (ad 2)) (C := RX4) (T := TX4) (N := 24) hx hb hts iw_X4_against_4 hown hK hP 0 rfl rfl 3 (by decide) (hts (.fieldLink RX4 13 "TownLispModel" "sheetLong" "[I") (by decide +kernel)) (fun _ h9 => h9) rfl dX4_against_60 ?_
              refine lv_iload_n hx hb dX4_against_63 rfl (lv_at hl 1 rfl) ?_
              refine va_iald hx hb hK hP 2 0 rfl rfl (hs) dX4_against_64 ?_
              refine lv_iload_n hx hb dX4_against_65 rfl (lv_at hl 3 rfl) ?_
              refine lv_isub hx hb dX4_against_66 ?_
              refine lv_icmp_le (tgt := 74) hx hb dX4_against_67 (by decide) (fun c_67 => ?_) (fun c_67 => ?_)
              · refine lv_iconst (v := (0 : Int32)) hx hb dX4_against_74 (by decide) ?_
                have hF : f_X4_against M x1 x2 x3 x4 = (0 : Int32) := by rw [f_X4_against, if_neg c_8, if_pos c_18, if_neg c_31, if_pos c_38, if_neg c_44, if_neg c_54, if_pos c_67]
                rw [hF]
                exact kr_i B hP hS rfl rfl dX4_against_75
              · refine lv_iconst (v := (3 : Int32)) hx hb dX4_against_70 (by decide) ?_
                refine lv_goto (tgt := 75) hx hb dX4_against_71 (by decide) ?_
                have hF : f_X4_against M x1 x2 x3 x4 = (3 : Int32) := by rw [f_X4_against, if_neg c_8, if_pos c_18, if_neg c_31, if_pos c_38, if_neg c_44, if_neg c_54, if_neg c_67]
                rw [hF]
                exact kr_i B hP hS rfl rfl dX4_against_75
        · refine lv_iconst (v := (4 : Int32)) hx hb dX4_against_41 (by decide) ?_
          have hF : f_X4_against M x1 x2 x3 x4 = (4 : Int32) := by rw [f_X4_against, if_neg c_8, if_pos c_18, if_neg c_31, if_neg c_38]
          rw [hF]
          exact kr_i B hP hS rfl rfl dX4_against_42
      · refine lv_iconst (v := (1 : Int32)) hx hb dX4_against_34 (by decide) ?_
        have hF : f_X4_against M x1 x2 x3 x4 = (1 : Int32) := by rw [f_X4_against, if_neg c_8, if_pos c_18, if_pos c_31]
        rw [hF]
        exact kr_i B hP hS rfl rfl dX4_against_35
    · refine lv_iconst (v := (2 : Int32)) hx hb dX4_against_21 (by decide) ?_
      have hF : f_X4_against M x1 x2 x3 x4 = (2 : Int32) := by rw [f_X4_against, if_neg c_8, if_neg c_18]
      rw [hF]
      exact kr_i B hP hS rfl rfl dX4_against_22
def fL_X4_size_4 (x0 : Int32) : Nat → Int32 → Int32 → Int32
  | 0, _, _ => 0
  | k + 1, x1, x2 => (if x2 ≤ 0 then x1 else fL_X4_size_4 x0 k (x1 + (x2 &&& (1 : Int32))) (x2 >>> ((1 : Int32) &&& 31)))
def f_X4_size (x0 : Int32) : Int32 := fL_X4_size_4 x0 (x0.toInt.toNat + 1) (0 : Int32) x0
set_option maxHeartbeats 4000000 in
set_option maxRecDepth 100000 in
theorem L_X4_size_4 {p : Program} (l : Launch) {e : Env} {s : State} {m : MethodId} {args : Array Value} {below : List Frame} {meth : Method} {c : Code} {A : Nat → Prop} (D : va_G) (cI cO : ClassId) (tF : Nat) (x0 : Int32) (B : Bx p s m args meth c cX4_size 3 (some .int) wsX4_size RX4 D cI cO tF A) : ∀ (k : Nat) (x1 : Int32) (x2 : Int32), (x2.toInt.toNat < k) → ∀ (H : Heap) (locs : List Loc), va_P D vwCl ([]) H → va_D A ([]) → va_S A s.heap H locs → ∀ ls : Array Slot, lv_has ls 3 [(0, .int x0), (1, .int x1), (2, .int x2)] → W p l e ({ frames := 0, cells := 0, slots := 0, locals := 0 }) s m args below meth c H locs 0 0 (MQ below (Qp D (some (.int (fL_X4_size_4 x0 k x1 x2))) ([]) A) args s 0 0 A) (F0 m 4 ls []) := by
  obtain ⟨hx, hb, hret, hml, hts, hown, hlocks, hE, hA⟩ := id B
  have hK := hE.1
  intro k
  induction k with
  | zero =>
    intro x1 x2 hk
    exact absurd hk (Nat.not_lt_zero _)
  | succ k ih =>
    intro x1 x2 hk H locs hP hD hS ls hl
    refine lv_iload_n hx hb dX4_size_4 rfl (lv_at hl 2 rfl) ?_
    refine lv_if_le (tgt := 21) hx hb dX4_size_5 (by decide) (fun c_5 => ?_) (fun c_5 => ?_)
    · refine lv_iload_n hx hb dX4_size_21 rfl (lv_at hl 1 rfl) ?_
      have hF : fL_X4_size_4 x0 (k + 1) x1 x2 = x1 := by rw [fL_X4_size_4, if_pos c_5]
      rw [hF]
      exact kr_i B hP hS rfl rfl dX4_size_22
    · refine lv_iload_n hx hb dX4_size_8 rfl (lv_at hl 1 rfl) ?_
      refine lv_iload_n hx hb dX4_size_9 rfl (lv_at hl 2 rfl) ?_
      refine lv_iconst (v := (1 : Int32)) hx hb dX4_size_10 (by decide) ?_
      refine lv_iand hx hb dX4_size_11 ?_
      refine lv_iadd hx hb dX4_size_12 ?_
      refine lv_istore_n (lv' := [(1, .int (x1 + (x2 &&& (1 : Int32)))), (0, .int x0), (2, .int x2)]) hx hb dX4_size_13 rfl hl (by decide) rfl (fun ls hl => ?_)
      refine lv_iload_n hx hb dX4_size_14 rfl (lv_at hl 2 rfl) ?_
      refine lv_iconst (v := (1 : Int32)) hx hb dX4_size_15 (by decide) ?_
      refine lv_ishr hx hb dX4_size_16 ?_
      refine lv_istore_n (lv' := [(2, .int (x2 >>> ((1 : Int32) &&& 31))), (1, .int (x1 + (x2 &&& (1 : Int32)))), (0, .int x0)]) hx hb dX4_size_17 rfl hl (by decide) rfl (fun ls hl => ?_)
      refine lv_goto (tgt := 4) hx hb dX4_size_18 (by decide) ?_
      have hF : fL_X4_size_4 x0 (k + 1) x1 x2 = fL_X4_size_4 x0 k (x1 + (x2 &&& (1 : Int32))) (x2 >>> ((1 : Int32) &&& 31)) := by rw [fL_X4_size_4, if_neg c_5]
      rw [hF]
      exact ih (x1 + (x2 &&& (1 : Int32))) (x2 >>> ((1 : Int32) &&& 31)) (sz_mu c_5 hk) _ _ hP hD hS ls (lv_sub hl [2, 1, 0] rfl)
set_option maxHeartbeats 4000000 in
set_option maxRecDepth 100000 in
theorem c_X4_size (l : Launch) (D : va_G) (cI cO : ClassId) (tF : Nat) (x0 : Int32) : Ct l yX4_size wsX4_size ({ frames := 0, cells := 0, slots := 0, locals := 0 }) D cI cO tF [.int x0] ([]) (some (.int (f_X4_size x0))) ([]) := by
  refine Ct.of (cc := cX4_size) (maxL := 3) (ret := (some .int)) (own := RX4) (by decide) rfl rfl (Nat.le_of_ble_eq_true rfl) ?_
  intro p e s m args below meth c A ls B hP hD hS hl
  obtain ⟨hx, hb, hret, hml, hts, hown, hlocks, hE, hA⟩ := id B
  have hK := hE.1
  have hl : lv_has ls 3 [(0, .int x0)] := hl
  refine lv_iconst (v := (0 : Int32)) hx hb dX4_size_0 (by decide) ?_
  refine lv_istore_n (lv' := [(1, .int (0 : Int32)), (0, .int x0)]) hx hb dX4_size_1 rfl hl (by decide) rfl (fun ls hl => ?_)
  refine lv_iload_n hx hb dX4_size_2 rfl (lv_at hl 1 rfl) ?_
  refine lv_istore_n (lv' := [(2, .int x0), (1, .int (0 : Int32)), (0, .int x0)]) hx hb dX4_size_3 rfl hl (by decide) rfl (fun ls hl => ?_)
  have hF : f_X4_size x0 = fL_X4_size_4 x0 (x0.toInt.toNat + 1) (0 : Int32) x0 := by rw [f_X4_size]
  rw [hF]
  exact L_X4_size_4 l D cI cO tF x0  B  (x0.toInt.toNat + 1) (0 : Int32) x0 (Nat.lt_succ_self _) _ _ hP hD hS ls (lv_sub hl [2, 1, 0] rfl)
def f_X4_saysBy (M : MS) (x1 : Int32) (x2 : Int32) : Int32 := (if ((M_kind M) x1.toNatClampNeg) = (1 : Int32) then (if (x2 / ((M_thick M) x1.toNatClampNeg)) ≤ 0 then (0 : Int32) else ((x2 / ((M_thick M) x1.toNatClampNeg)) - (1 : Int32))) else (if ((M_kind M) x1.toNatClampNeg) = 0 then (x2 / ((M_thick M) x1.toNatClampNeg)) else ((2 : Int32) * (x2 / ((M_thick M) x1.toNatClampNeg)))))
theorem iw_X4_saysBy_4 : ∀ w ∈ wsX40, w ∈ wsX4_saysBy := fun _ h => List.mem_cons_of_mem _ (List.mem_append_right _ h)
set_option maxHeartbeats 4000000 in
set_option maxRecDepth 100000 in
theorem c_X4_saysBy (l : Launch) (D : va_G) (cI cO : ClassId) (tF : Nat) (ad : Nat → Nat) (M : MS) (x1 : Int32) (x2 : Int32) (hp : vp_in x1 6) (ht : ¬ (M_thick M x1.toNatClampNeg) = 0) : Ct l yX4_saysBy wsX4_saysBy ({ frames := 0, cells := 0, slots := 0, locals := 0 }) D cI cO tF [.ref (ad 0), .int x1, .int x2] (wM ad cI M) (some (.int (f_X4_saysBy M x1 x2))) (wM ad cI M) := by
  refine Ct.of (cc := cX4_saysBy) (maxL := 4) (ret := (some .int)) (own := RX4) (by decide) rfl rfl (Nat.le_of_ble_eq_true rfl) ?_
  intro p e s m args below meth c A ls B hP hD hS hl
  obtain ⟨hx, hb, hret, hml, hts, hown, hlocks, hE, hA⟩ := id B
  have hK := hE.1
  have hl : lv_has ls 4 [(0, .ref (ad 0)), (1, .int x1), (2, .int x2)] := hl
  refine lv_iload_n hx hb dX4_saysBy_0 rfl (lv_at hl 2 rfl) ?_
  refine lv_aload_n hx hb dX4_saysBy_1 rfl (lv_at hl 0 rfl) ?_
  refine va_get (D := D) (ci := 4) (v := .ref (ad 6)) (C := RX4) (T := TX4) (N := 24) hx hb hts iw_X4_saysBy_4 hown hK hP 0 rfl rfl 11 (by decide) (hts (.fieldLink RX4 25 "TownLispModel" "thick" "[I") (by decide +kernel)) (fun _ h9 => h9) rfl dX4_saysBy_2 ?_
  refine lv_iload_n hx hb dX4_saysBy_5 rfl (lv_at hl 1 rfl) ?_
  refine va_iald hx hb hK hP 6 0 rfl rfl (hp) dX4_saysBy_6 ?_
  refine lv_idiv hx hb dX4_saysBy_7 (ht) ?_
  refine lv_istore_n (lv' := [(3, .int (x2 / ((M_thick M) x1.toNatClampNeg))), (0, .ref (ad 0)), (1, .int x1), (2, .int x2)]) hx hb dX4_saysBy_8 rfl hl (by decide) rfl (fun ls hl => ?_)
  refine lv_aload_n hx hb dX4_saysBy_9 rfl (lv_at hl 1 rfl) ?_
  refine va_get (D := D) (ci := 4) (v := .ref (ad 4)) (C := RX4) (T := TX4) (N := 24) hx hb hts iw_X4_saysBy_4 hown hK hP 0 rfl rfl 9 (by decide) (hts (.fieldLink RX4 19 "TownLispModel" "kind" "[I") (by decide +kernel)) (fun _ h9 => h9) rfl dX4_saysBy_10 ?_
  refine lv_iload_n hx hb dX4_saysBy_13 rfl (lv_at hl 2 rfl) ?_
  refine va_iald hx hb hK hP 4 0 rfl rfl (hp) dX4_saysBy_14 ?_
  refine lv_iconst (v := (1 : Int32)) hx hb dX4_saysBy_15 (by decide) ?_
  refine lv_icmp_ne (tgt := 31) hx hb dX4_saysBy_16 (by decide) (fun c_16 => ?_) (fun c_16 => ?_)
  · refine lv_aload_n hx hb dX4_saysBy_31 rfl (lv_at hl 1 rfl) ?_
    refine va_get (D := D) (ci := 4) (v := .ref (ad 4)) (C := RX4) (T := TX4) (N := 24) hx hb hts iw_X4_saysBy_4 hown hK hP 0 rfl rfl 9 (by decide) (hts (.fieldLink RX4 19 "TownLispModel" "kind" "[I") (by decide +kernel)) (fun _ h9 => h9) rfl dX4_saysBy_32 ?_
    refine lv_iload_n hx hb dX4_saysBy_35 rfl (lv_at hl 2 rfl) ?_
    refine va_iald hx hb hK hP 4 0 rfl rfl (hp) dX4_saysBy_36 ?_
    refine lv_if_ne (tgt := 44) hx hb dX4_saysBy_37 (by decide) (fun c_37 => ?_) (fun c_37 => ?_)
    · refine lv_iconst (v := (2 : Int32)) hx hb dX4_saysBy_44 (by decide) ?_
      refine lv_iload_n hx hb dX4_saysBy_45 rfl (lv_at hl 0 rfl) ?_
      refine lv_imul hx hb dX4_saysBy_46 ?_
      have hF : f_X4_saysBy M x1 x2 = ((2 : Int32) * (x2 / ((M_thick M) x1.toNatClampNeg))) := by rw [f_X4_saysBy, if_neg c_16, if_neg c_37]
      rw [hF]
      exact kr_i B hP hS rfl rfl dX4_saysBy_47
    · refine lv_iload_n hx hb dX4_saysBy_40 rfl (lv_at hl 0 rfl) ?_
      refine lv_goto (tgt := 47) hx hb dX4_saysBy_41 (by decide) ?_
      have hF : f_X4_saysBy M x1 x2 = (x2 / ((M_thick M) x1.toNatClampNeg)) := by rw [f_X4_saysBy, if_neg c_16, if_pos c_37]
      rw [hF]
      exact kr_i B hP hS rfl rfl dX4_saysBy_47
  · refine lv_iload_n hx hb dX4_saysBy_19 rfl (lv_at hl 0 rfl) ?_
    refine lv_if_le (tgt := 29) hx hb dX4_saysBy_20 (by decide) (fun c_20 => ?_) (fun c_20 => ?_)
    · refine lv_iconst (v := (0 : Int32)) hx hb dX4_saysBy_29 (by decide) ?_
      have hF : f_X4_saysBy M x1 x2 = (0 : Int32) := by rw [f_X4_saysBy, if_pos c_16, if_pos c_20]
      rw [hF]
      exact kr_i B hP hS rfl rfl dX4_saysBy_30
    · refine lv_iload_n hx hb dX4_saysBy_23 rfl (lv_at hl 0 rfl) ?_
      refine lv_iconst (v := (1 : Int32)) hx hb dX4_saysBy_24 (by decide) ?_
      refine lv_isub hx hb dX4_saysBy_25 ?_
      refine lv_goto (tgt := 30) hx hb dX4_saysBy_26 (by decide) ?_
      have hF : f_X4_saysBy M x1 x2 = ((x2 / ((M_thick M) x1.toNatClampNeg)) - (1 : Int32)) := by rw [f_X4_saysBy, if_pos c_16, if_neg c_20]
      rw [hF]
      exact kr_i B hP hS rfl rfl dX4_saysBy_30
def fL_X4_partsOf_4 (M : MS) (x1 : Int32) : Nat → Int32 → Int32 → Int32
  | 0, _, _ => 0
  | k + 1, x2, x3 => (if (M_people M) ≤ x3 then x2 else (if (f_X4_isOf x1 x3) = 0 then fL_X4_partsOf_4 M x1 k (x2 + (0 : Int32)) (x3 + (1 : Int32)) else fL_X4_partsOf_4 M x1 k (x2 + ((M_parts M) x3.toNatClampNeg)) (x3 + (1 : Int32))))
def f_X4_partsOf (M : MS) (x1 : Int32) : Int32 := fL_X4_partsOf_4 M x1 7 (0 : Int32) (0 : Int32)
theorem iw_X4_partsOf_4 : ∀ w ∈ wsX40, w ∈ wsX4_partsOf := fun _ h => List.mem_cons_of_mem _ (List.mem_append_right _ h)
set_option maxHeartbeats 4000000 in
set_option maxRecDepth 100000 in
theorem L_X4_partsOf_4 {p : Program} (l : Launch) {e : Env} {s : State} {m : MethodId} {args : Array Value} {below : List Frame} {meth : Method} {c : Code} {A : Nat → Prop} (D : va_G) (cI cO : ClassId) (tF : Nat) (ad : Nat → Nat) (M : MS) (x1 : Int32) (hn : (M_people M).toInt ≤ 6) (B : Bx p s m args meth c cX4_partsOf 4 (some .int) wsX4_partsOf RX4 D cI cO tF A) : ∀ (k : Nat) (x2 : Int32) (x3 : Int32), (0 ≤ x3.toInt) → (((M_people M).toInt - x3.toInt).toNat < k) → ∀ (H : Heap) (locs : List Loc), va_P D vwCl (wM ad cI M) H → va_D A (wM ad cI M) → va_S A s.heap H locs → ∀ ls : Array Slot, lv_has ls 4 [(0, .ref (ad 0)), (1, .int x1), (2, .int x2), (3, .int x3)] → W p l e ({ frames := 1, cells := 0, slots := 0, locals := 21 }) s m args below meth c H locs 0 0 (MQ below (Qp D (some (.int (fL_X4_partsOf_4 M x1 k x2 x3))) (wM ad cI M) A) args s 0 0 A) (F0 m 4 ls []) := by
  obtain ⟨hx, hb, hret, hml, hts, hown, hlocks, hE, hA⟩ := id B
  have hK := hE.1
  intro k
  induction k with
  | zero =>
    intro x2 x3 h0 hk
    exact absurd hk (Nat.not_lt_zero _)
  | succ k ih =>
    intro x2 x3 h0 hk H locs hP hD hS ls hl
    refine lv_iload_n hx hb dX4_partsOf_4 rfl (lv_at hl 3 rfl) ?_
    refine lv_aload_n hx hb dX4_partsOf_5 rfl (lv_at hl 0 rfl) ?_
    refine va_get (D := D) (ci := 4) (v := .int (M_people M)) (C := RX4) (T := TX4) (N := 24) hx hb hts iw_X4_partsOf_4 hown hK hP 0 rfl rfl 5 (by decide) (hts (.fieldLink RX4 56 "TownLispModel" "people" "I") (by decide +kernel)) (fun _ h9 => h9) rfl dX4_partsOf_6 ?_
    refine lv_icmp_ge (tgt := 39) hx hb dX4_partsOf_9 (by decide) (fun c_9 => ?_) (fun c_9 => ?_)
    · refine lv_iload_n hx hb dX4_partsOf_39 rfl (lv_at hl 2 rfl) ?_
      have hF : fL_X4_partsOf_4 M x1 (k + 1) x2 x3 = x2 := by rw [fL_X4_partsOf_4, if_pos c_9]
      rw [hF]
      exact kr_i B hP hS rfl rfl dX4_partsOf_40
    · refine lv_iload_n hx hb dX4_partsOf_12 rfl (lv_at hl 2 rfl) ?_
      refine lv_iload_n hx hb dX4_partsOf_13 rfl (lv_at hl 1 rfl) ?_
      refine lv_iload_n hx hb dX4_partsOf_14 rfl (lv_at hl 3 rfl) ?_
      refine kc_S (As := [.int x1, .int x3]) (rest := [.int x2]) B (c_X4_isOf l D cI cO tF x1 x3 ) (va_cwS 2 hts gX4_partsOf_X4_isOf rfl rfl rfl (by decide +kernel) ⟨Nat.le_of_ble_eq_true rfl, Nat.le_of_ble_eq_true rfl⟩) hP hD hS [] rfl (by decide) (w' := wM ad cI M) rfl rfl rfl hl.1 rfl (Nat.le_of_ble_eq_true rfl) dX4_partsOf_15 ⟨Nat.zero_le _, Nat.zero_le _⟩ (fun H locs hP hD hS => ?_)
      have hD : va_D A (wM ad cI M) := hD
      refine lv_if_eq (tgt := 30) hx hb dX4_partsOf_18 (by decide) (fun c_18 => ?_) (fun c_18 => ?_)
      · refine lv_iconst (v := (0 : Int32)) hx hb dX4_partsOf_30 (by decide) ?_
        refine lv_iadd hx hb dX4_partsOf_31 ?_
        refine lv_istore_n (lv' := [(2, .int (x2 + (0 : Int32))), (0, .ref (ad 0)), (1, .int x1), (3, .int x3)]) hx hb dX4_partsOf_32 rfl hl (by decide) rfl (fun ls hl => ?_)
        refine lv_iinc (v := (x3 + (1 : Int32))) (lv' := [(3, .int (x3 + (1 : Int32))), (2, .int (x2 + (0 : Int32))), (0, .ref (ad 0)), (1, .int x1)]) hx hb dX4_partsOf_33 hl (k := 3) rfl rfl (by decide) rfl (fun ls hl => ?_)
        refine lv_goto (tgt := 4) hx hb dX4_partsOf_36 (by decide) ?_
        have hF : fL_X4_partsOf_4 M x1 (k + 1) x2 x3 = fL_X4_partsOf_4 M x1 k (x2 + (0 : Int32)) (x3 + (1 : Int32)) := by rw [fL_X4_partsOf_4, if_neg c_9, if_pos c_18]
        rw [hF]
        exact ih (x2 + (0 : Int32)) (x3 + (1 : Int32)) (lp_pre h0 c_9) (lp_mu h0 c_9 hk) _ _ hP hD hS ls (lv_sub hl [2, 3, 1, 0] rfl)
      · refine lv_aload_n hx hb dX4_partsOf_21 rfl (lv_at hl 0 rfl) ?_
        refine va_get (D := D) (ci := 4) (v := .ref (ad 5)) (C := RX4) (T := TX4) (N := 24) hx hb hts iw_X4_partsOf_4 hown hK hP 0 rfl rfl 10 (by decide) (hts (.fieldLink RX4 22 "TownLispModel" "parts" "[I") (by decide +kernel)) (fun _ h9 => h9) rfl dX4_partsOf_22 ?_
        refine lv_iload_n hx hb dX4_partsOf_25 rfl (lv_at hl 3 rfl) ?_
        refine va_iald hx hb hK hP 5 0 rfl rfl (lp_in h0 hn c_9) dX4_partsOf_26 ?_
        refine lv_goto (tgt := 31) hx hb dX4_partsOf_27 (by decide) ?_
        refine lv_iadd hx hb dX4_partsOf_31 ?_
        refine lv_istore_n (lv' := [(2, .int (x2 + ((M_parts M) x3.toNatClampNeg))), (0, .ref (ad 0)), (1, .int x1), (3, .int x3)]) hx hb dX4_partsOf_32 rfl hl (by decide) rfl (fun ls hl => ?_)
        refine lv_iinc (v := (x3 + (1 : Int32))) (lv' := [(3, .int (x3 + (1 : Int32))), (2, .int (x2 + ((M_parts M) x3.toNatClampNeg))), (0, .ref (ad 0)), (1, .int x1)]) hx hb dX4_partsOf_33 hl (k := 3) rfl rfl (by decide) rfl (fun ls hl => ?_)
        refine lv_goto (tgt := 4) hx hb dX4_partsOf_36 (by decide) ?_
        have hF : fL_X4_partsOf_4 M x1 (k + 1) x2 x3 = fL_X4_partsOf_4 M x1 k (x2 + ((M_parts M) x3.toNatClampNeg)) (x3 + (1 : Int32)) := by rw [fL_X4_partsOf_4, if_neg c_9, if_neg c_18]
        rw [hF]
        exact ih (x2 + ((M_parts M) x3.toNatClampNeg)) (x3 + (1 : Int32)) (lp_pre h0 c_9) (lp_mu h0 c_9 hk) _ _ hP hD hS ls (lv_sub hl [2, 3, 1, 0] rfl)
set_option maxHeartbeats 4000000 in
set_option maxRecDepth 100000 in
theorem c_X4_partsOf (l : Launch) (D : va_G) (cI cO : ClassId) (tF : Nat) (ad : Nat → Nat) (M : MS) (x1 : Int32) (hn : (M_people M).toInt ≤ 6) : Ct l yX4_partsOf wsX4_partsOf ({ frames := 1, cells := 0, slots := 0, locals := 21 }) D cI cO tF [.ref (ad 0), .int x1] (wM ad cI M) (some (.int (f_X4_partsOf M x1))) (wM ad cI M) := by
  refine Ct.of (cc := cX4_partsOf) (maxL := 4) (ret := (some .int)) (own := RX4) (by decide) rfl rfl (Nat.le_of_ble_eq_true rfl) ?_
  intro p e s m args below meth c A ls B hP hD hS hl
  obtain ⟨hx, hb, hret, hml, hts, hown, hlocks, hE, hA⟩ := id B
  have hK := hE.1
  have hl : lv_has ls 4 [(0, .ref (ad 0)), (1, .int x1)] := hl
  refine lv_iconst (v := (0 : Int32)) hx hb dX4_partsOf_0 (by decide) ?_
  refine lv_istore_n (lv' := [(2, .int (0 : Int32)), (0, .ref (ad 0)), (1, .int x1)]) hx hb dX4_partsOf_1 rfl hl (by decide) rfl (fun ls hl => ?_)
  refine lv_iconst (v := (0 : Int32)) hx hb dX4_partsOf_2 (by decide) ?_
  refine lv_istore_n (lv' := [(3, .int (0 : Int32)), (2, .int (0 : Int32)), (0, .ref (ad 0)), (1, .int x1)]) hx hb dX4_partsOf_3 rfl hl (by decide) rfl (fun ls hl => ?_)
  have hF : f_X4_partsOf M x1 = fL_X4_partsOf_4 M x1 7 (0 : Int32) (0 : Int32) := by rw [f_X4_partsOf]
  rw [hF]
  exact L_X4_partsOf_4 l D cI cO tF ad M x1 hn B  7 (0 : Int32) (0 : Int32) (Int.le_refl _) (by rw [show (0 : Int32).toInt = 0 from rfl]; omega) _ _ hP hD hS ls (lv_sub hl [2, 3, 1, 0] rfl)
def fL_X4_doGather_4 (M : MS) (x1 : Int32) : Nat → Int32 → Int32 → (Nat → Int32) → Int32 × MS
  | 0, _, _, v_parts => (0, (M_parts' M v_parts))
  | k + 1, x2, x3, v_parts => (if (M_people M) ≤ x3 then (x2, (M_parts' M (upd v_parts x1.toNatClampNeg ((v_parts x1.toNatClampNeg) + x2)))) else (if x3 = x1 then fL_X4_doGather_4 M x1 k x2 (x3 + (1 : Int32)) v_parts else (if (f_X4_isOf (M_isIn M) x3) = 0 then fL_X4_doGather_4 M x1 k x2 (x3 + (1 : Int32)) v_parts else (if (v_parts x3.toNatClampNeg) ≤ 0 then fL_X4_doGather_4 M x1 k x2 (x3 + (1 : Int32)) v_parts else fL_X4_doGather_4 M x1 k (x2 + (1 : Int32)) (x3 + (1 : Int32)) (upd v_parts x3.toNatClampNeg ((v_parts x3.toNatClampNeg) - (1 : Int32)))))))
def f_X4_doGather (M : MS) (x1 : Int32) : Int32 × MS := fL_X4_doGather_4 M x1 7 (0 : Int32) (0 : Int32) (M_parts M)
theorem iw_X4_doGather_4 : ∀ w ∈ wsX40, w ∈ wsX4_doGather := fun _ h => List.mem_cons_of_mem _ (List.mem_append_right _ h)
set_option maxHeartbeats 4000000 in
set_option maxRecDepth 100000 in
theorem L_X4_doGather_4 {p : Program} (l : Launch) {e : Env} {s : State} {m : MethodId} {args : Array Value} {below : List Frame} {meth : Method} {c : Code} {A : Nat → Prop} (D : va_G) (cI cO : ClassId) (tF : Nat) (ad : Nat → Nat) (M : MS) (x1 : Int32) (hn : (M_people M).toInt ≤ 6) (hp : vp_in x1 6) (B : Bx p s m args meth c cX4_doGather 4 (some .int) wsX4_doGather RX4 D cI cO tF A) : ∀ (k : Nat) (x2 : Int32) (x3 : Int32) (v_parts : (Nat → Int32)), (0 ≤ x3.toInt) → (((M_people M).toInt - x3.toInt).toNat < k) → ∀ (H : Heap) (locs : List Loc), va_P D vwCl (wM ad cI (M_parts' M v_parts)) H → va_D A (wM ad cI (M_parts' M v_parts)) → va_S A s.heap H locs → ∀ ls : Array Slot, lv_has ls 4 [(0, .ref (ad 0)), (1, .int x1), (2, .int x2), (3, .int x3)] → W p l e ({ frames := 1, cells := 0, slots := 0, locals := 21 }) s m args below meth c H locs 0 0 (MQ below (Qp D (some (.int ((fL_X4_doGather_4 M x1 k x2 x3 v_parts).1))) (wM ad cI ((fL_X4_doGather_4 M x1 k x2 x3 v_parts).2)) A) args s 0 0 A) (F0 m 4 ls []) := by
  obtain ⟨hx, hb, hret, hml, hts, hown, hlocks, hE, hA⟩ := id B
  have hK := hE.1
  intro k
  induction k with
  | zero =>
    intro x2 x3 v_parts h0 hk
    exact absurd hk (Nat.not_lt_zero _)
  | succ k ih =>
    intro x2 x3 v_parts h0 hk H locs hP hD hS ls hl
    refine lv_iload_n hx hb dX4_doGather_4 rfl (lv_at hl 3 rfl) ?_
    refine lv_aload_n hx hb dX4_doGather_5 rfl (lv_at hl 0 rfl) ?_
    refine va_get (D := D) (ci := 4) (v := .int (M_people M)) (C := RX4) (T := TX4) (N := 24) hx hb hts iw_X4_doGather_4 hown hK hP 0 rfl rfl 5 (by decide) (hts (.fieldLink RX4 56 "TownLispModel" "people" "I") (by decide +kernel)) (fun _ h9 => h9) rfl dX4_doGather_6 ?_
    refine lv_icmp_ge (tgt := 56) hx hb dX4_doGather_9 (by decide) (fun c_9 => ?_) (fun c_9 => ?_)
    · refine lv_aload_n hx hb dX4_doGather_56 rfl (lv_at hl 0 rfl) ?_
      refine va_get (D := D) (ci := 4) (v := .ref (ad 5)) (C := RX4) (T := TX4) (N := 24) hx hb hts iw_X4_doGather_4 hown hK hP 0 rfl rfl 10 (by decide) (hts (.fieldLink RX4 22 "TownLispModel" "parts" "[I") (by decide +kernel)) (fun _ h9 => h9) rfl dX4_doGather_57 ?_
      refine lv_iload_n hx hb dX4_doGather_60 rfl (lv_at hl 1 rfl) ?_
      refine lv_dup2_11 hx hb dX4_doGather_61 rfl rfl ?_
      refine va_iald hx hb hK hP 5 0 rfl rfl (hp) dX4_doGather_62 ?_
      refine lv_iload_n hx hb dX4_doGather_63 rfl (lv_at hl 2 rfl) ?_
      refine lv_iadd hx hb dX4_doGather_64 ?_
      refine va_iast hx hb hK hP hD hS 5 0 rfl rfl (hp) dX4_doGather_65 (fun H locs hP hD hS => ?_)
      have hP : va_P D vwCl (wM ad cI (M_parts' M (upd v_parts x1.toNatClampNeg ((v_parts x1.toNatClampNeg) + x2)))) H := hP
      have hD : va_D A (wM ad cI (M_parts' M (upd v_parts x1.toNatClampNeg ((v_parts x1.toNatClampNeg) + x2)))) := hD
      refine lv_iload_n hx hb dX4_doGather_66 rfl (lv_at hl 2 rfl) ?_
      have hF : fL_X4_doGather_4 M x1 (k + 1) x2 x3 v_parts = (x2, (M_parts' M (upd v_parts x1.toNatClampNeg ((v_parts x1.toNatClampNeg) + x2)))) := by rw [fL_X4_doGather_4, if_pos c_9]
      rw [hF]
      exact kr_i B hP hS rfl rfl dX4_doGather_67
    · refine lv_iload_n hx hb dX4_doGather_12 rfl (lv_at hl 3 rfl) ?_
      refine lv_iload_n hx hb dX4_doGather_13 rfl (lv_at hl 1 rfl) ?_
      refine lv_icmp_eq (tgt := 50) hx hb dX4_doGather_14 (by decide) (fun c_14 => ?_) (fun c_14 => ?_)
      · refine lv_iinc (v := (x3 + (1 : Int32))) (lv' := [(3, .int (x3 + (1 : Int32))), (0, .ref (ad 0)), (1, .int x1), (2, .int x2)]) hx hb dX4_doGather_50 hl (k := 3) rfl rfl (by decide) rfl (fun ls hl => ?_)
        refine lv_goto (tgt := 4) hx hb dX4_doGather_53 (by decide) ?_
        have hF : fL_X4_doGather_4 M x1 (k + 1) x2 x3 v_parts = fL_X4_doGather_4 M x1 k x2 (x3 + (1 : Int32)) v_parts := by rw [fL_X4_doGather_4, if_neg c_9, if_pos c_14]
        rw [hF]
        exact ih x2 (x3 + (1 : Int32)) v_parts (lp_pre h0 c_9) (lp_mu h0 c_9 hk) _ _ hP hD hS ls (lv_sub hl [1, 2, 3, 0] rfl)
      · refine lv_aload_n hx hb dX4_doGather_17 rfl (lv_at hl 0 rfl) ?_
        refine va_get (D := D) (ci := 4) (v := .int (M_isIn M)) (C := RX4) (T := TX4) (N := 24) hx hb hts iw_X4_doGather_4 hown hK hP 0 rfl rfl 7 (by decide) (hts (.fieldLink RX4 96 "TownLispModel" "isIn" "I") (by decide +kernel)) (fun _ h9 => h9) rfl dX4_doGather_18 ?_
        refine lv_iload_n hx hb dX4_doGather_21 rfl (lv_at hl 3 rfl) ?_
        refine kc_S (As := [.int (M_isIn M), .int x3]) (rest := []) B (c_X4_isOf l D cI cO tF (M_isIn M) x3 ) (va_cwS 2 hts gX4_doGather_X4_isOf rfl rfl rfl (by decide +kernel) ⟨Nat.le_of_ble_eq_true rfl, Nat.le_of_ble_eq_true rfl⟩) hP hD hS [] rfl (by decide) (w' := wM ad cI (M_parts' M v_parts)) rfl rfl rfl hl.1 rfl (Nat.le_of_ble_eq_true rfl) dX4_doGather_22 ⟨Nat.zero_le _, Nat.zero_le _⟩ (fun H locs hP hD hS => ?_)
        have hD : va_D A (wM ad cI (M_parts' M v_parts)) := hD
        refine lv_if_eq (tgt := 50) hx hb dX4_doGather_25 (by decide) (fun c_25 => ?_) (fun c_25 => ?_)
        · refine lv_iinc (v := (x3 + (1 : Int32))) (lv' := [(3, .int (x3 + (1 : Int32))), (0, .ref (ad 0)), (1, .int x1), (2, .int x2)]) hx hb dX4_doGather_50 hl (k := 3) rfl rfl (by decide) rfl (fun ls hl => ?_)
          refine lv_goto (tgt := 4) hx hb dX4_doGather_53 (by decide) ?_
          have hF : fL_X4_doGather_4 M x1 (k + 1) x2 x3 v_parts = fL_X4_doGather_4 M x1 k x2 (x3 + (1 : Int32)) v_parts := by rw [fL_X4_doGather_4, if_neg c_9, if_neg c_14, if_pos c_25]
          rw [hF]
          exact ih x2 (x3 + (1 : Int32)) v_parts (lp_pre h0 c_9) (lp_mu h0 c_9 hk) _ _ hP hD hS ls (lv_sub hl [1, 2, 3, 0] rfl)
        · refine lv_aload_n hx hb dX4_doGather_28 rfl (lv_at hl 0 rfl) ?_
          refine va_get (D := D) (ci := 4) (v := .ref (ad 5)) (C := RX4) (T := TX4) (N := 24) hx hb hts iw_X4_doGather_4 hown hK hP 0 rfl rfl 10 (by decide) (hts (.fieldLink RX4 22 "TownLispModel" "parts" "[I") (by decide +kernel)) (fun _ h9 => h9) rfl dX4_doGather_29 ?_
          refine lv_iload_n hx hb dX4_doGather_32 rfl (lv_at hl 3 rfl) ?_
          refine va_iald hx hb hK hP 5 0 rfl rfl (lp_in h0 hn c_9) dX4_doGather_33 ?_
          refine lv_if_le (tgt := 50) hx hb dX4_doGather_34 (by decide) (fun c_34 => ?_) (fun c_34 => ?_)
          · refine lv_iinc (v := (x3 + (1 : Int32))) (lv' := [(3, .int (x3 + (1 : Int32))), (0, .ref (ad 0)), (1, .int x1), (2, .int x2)]) hx hb dX4_doGather_50 hl (k := 3) rfl rfl (by decide) rfl (fun ls hl => ?_)
            refine lv_goto (tgt := 4) hx hb dX4_doGather_53 (by decide) ?_
            have hF : fL_X4_doGather_4 M x1 (k + 1) x2 x3 v_parts = fL_X4_doGather_4 M x1 k x2 (x3 + (1 : Int32)) v_parts := by rw [fL_X4_doGather_4, if_neg c_9, if_neg c_14, if_neg c_25, if_pos c_34]
            rw [hF]
            exact ih x2 (x3 + (1 : Int32)) v_parts (lp_pre h0 c_9) (lp_mu h0 c_9 hk) _ _ hP hD hS ls (lv_sub hl [1, 2, 3, 0] rfl)
          · refine lv_aload_n hx hb dX4_doGather_37 rfl (lv_at hl 0 rfl) ?_
            refine va_get (D := D) (ci := 4) (v := .ref (ad 5)) (C := RX4) (T := TX4) (N := 24) hx hb hts iw_X4_doGather_4 hown hK hP 0 rfl rfl 10 (by decide) (hts (.fieldLink RX4 22 "TownLispModel" "parts" "[I") (by decide +kernel)) (fun _ h9 => h9) rfl dX4_doGather_38 ?_
            refine lv_iload_n hx hb dX4_doGather_41 rfl (lv_at hl 3 rfl) ?_
            refine lv_dup2_11 hx hb dX4_doGather_42 rfl rfl ?_
            refine va_iald hx hb hK hP 5 0 rfl rfl (lp_in h0 hn c_9) dX4_doGather_43 ?_
            refine lv_iconst (v := (1 : Int32)) hx hb dX4_doGather_44 (by decide) ?_
            refine lv_isub hx hb dX4_doGather_45 ?_
            refine va_iast hx hb hK hP hD hS 5 0 rfl rfl (lp_in h0 hn c_9) dX4_doGather_46 (fun H locs hP hD hS => ?_)
            have hP : va_P D vwCl (wM ad cI (M_parts' M (upd v_parts x3.toNatClampNeg ((v_parts x3.toNatClampNeg) - (1 : Int32))))) H := hP
            have hD : va_D A (wM ad cI (M_parts' M (upd v_parts x3.toNatClampNeg ((v_parts x3.toNatClampNeg) - (1 : Int32))))) := hD
            refine lv_iinc (v := (x2 + (1 : Int32))) (lv' := [(2, .int (x2 + (1 : Int32))), (0, .ref (ad 0)), (1, .int x1), (3, .int x3)]) hx hb dX4_doGather_47 hl (k := 2) rfl rfl (by decide) rfl (fun ls hl => ?_)
            refine lv_iinc (v := (x3 + (1 : Int32))) (lv' := [(3, .int (x3 + (1 : Int32))), (2, .int (x2 + (1 : Int32))), (0, .ref (ad 0)), (1, .int x1)]) hx hb dX4_doGather_50 hl (k := 3) rfl rfl (by decide) rfl (fun ls hl => ?_)
            refine lv_goto (tgt := 4) hx hb dX4_doGather_53 (by decide) ?_
            have hF : fL_X4_doGather_4 M x1 (k + 1) x2 x3 v_parts = fL_X4_doGather_4 M x1 k (x2 + (1 : Int32)) (x3 + (1 : Int32)) (upd v_parts x3.toNatClampNeg ((v_parts x3.toNatClampNeg) - (1 : Int32))) := by rw [fL_X4_doGather_4, if_neg c_9, if_neg c_14, if_neg c_25, if_neg c_34]
            rw [hF]
            exact ih (x2 + (1 : Int32)) (x3 + (1 : Int32)) (upd v_parts x3.toNatClampNeg ((v_parts x3.toNatClampNeg) - (1 : Int32))) (lp_pre h0 c_9) (lp_mu h0 c_9 hk) _ _ hP hD hS ls (lv_sub hl [2, 3, 1, 0] rfl)
set_option maxHeartbeats 4000000 in
set_option maxRecDepth 100000 in
theorem c_X4_doGather (l : Launch) (D : va_G) (cI cO : ClassId) (tF : Nat) (ad : Nat → Nat) (M : MS) (x1 : Int32) (hn : (M_people M).toInt ≤ 6) (hp : vp_in x1 6) : Ct l yX4_doGather wsX4_doGather ({ frames := 1, cells := 0, slots := 0, locals := 21 }) D cI cO tF [.ref (ad 0), .int x1] (wM ad cI M) (some (.int ((f_X4_doGather M x1).1))) (wM ad cI ((f_X4_doGather M x1).2)) := by
  refine Ct.of (cc := cX4_doGather) (maxL := 4) (ret := (some .int)) (own := RX4) (by decide) rfl rfl (Nat.le_of_ble_eq_true rfl) ?_
  intro p e s m args below meth c A ls B hP hD hS hl
  obtain ⟨hx, hb, hret, hml, hts, hown, hlocks, hE, hA⟩ := id B
  have hK := hE.1
  have hl : lv_has ls 4 [(0, .ref (ad 0)), (1, .int x1)] := hl
  refine lv_iconst (v := (0 : Int32)) hx hb dX4_doGather_0 (by decide) ?_
  refine lv_istore_n (lv' := [(2, .int (0 : Int32)), (0, .ref (ad 0)), (1, .int x1)]) hx hb dX4_doGather_1 rfl hl (by decide) rfl (fun ls hl => ?_)
  refine lv_iconst (v := (0 : Int32)) hx hb dX4_doGather_2 (by decide) ?_
  refine lv_istore_n (lv' := [(3, .int (0 : Int32)), (2, .int (0 : Int32)), (0, .ref (ad 0)), (1, .int x1)]) hx hb dX4_doGather_3 rfl hl (by decide) rfl (fun ls hl => ?_)
  have hF : f_X4_doGather M x1 = fL_X4_doGather_4 M x1 7 (0 : Int32) (0 : Int32) (M_parts M) := by rw [f_X4_doGather]
  rw [hF]
  exact L_X4_doGather_4 l D cI cO tF ad M x1 hn hp B  7 (0 : Int32) (0 : Int32) (M_parts M) (Int.le_refl _) (by rw [show (0 : Int32).toInt = 0 from rfl]; omega) _ _ hP hD hS ls (lv_sub hl [2, 3, 1, 0] rfl)
def f_X4_doOpen (M : MS) (x1 : Int32) : Int32 × MS := ((M_tin M), (M_tin' (M_parts' M (upd (M_parts M) x1.toNatClampNeg (((M_parts M) x1.toNatClampNeg) + (M_tin M)))) (0 : Int32)))
theorem iw_X4_doOpen_4 : ∀ w ∈ wsX40, w ∈ wsX4_doOpen := fun _ h => List.mem_cons_of_mem _ (List.mem_append_right _ h)
set_option maxHeartbeats 4000000 in
set_option maxRecDepth 100000 in
theorem c_X4_doOpen (l : Launch) (D : va_G) (cI cO : ClassId) (tF : Nat) (ad : Nat → Nat) (M : MS) (x1 : Int32) (hp : vp_in x1 6) : Ct l yX4_doOpen wsX4_doOpen ({ frames := 0, cells := 0, slots := 0, locals := 0 }) D cI cO tF [.ref (ad 0), .int x1] (wM ad cI M) (some (.int ((f_X4_doOpen M x1).1))) (wM ad cI ((f_X4_doOpen M x1).2)) := by
  refine Ct.of (cc := cX4_doOpen) (maxL := 3) (ret := (some .int)) (own := RX4) (by decide) rfl rfl (Nat.le_of_ble_eq_true rfl) ?_
  intro p e s m args below meth c A ls B hP hD hS hl
  obtain ⟨hx, hb, hret, hml, hts, hown, hlocks, hE, hA⟩ := id B
  have hK := hE.1
  have hl : lv_has ls 3 [(0, .ref (ad 0)), (1, .int x1)] := hl
  refine lv_aload_n hx hb dX4_doOpen_0 rfl (lv_at hl 0 rfl) ?_
  refine va_get (D := D) (ci := 4) (v := .int (M_tin M)) (C := RX4) (T := TX4) (N := 24) hx hb hts iw_X4_doOpen_4 hown hK hP 0 rfl rfl 6 (by decide) (hts (.fieldLink RX4 90 "TownLispModel" "tin" "I") (by decide +kernel)) (fun _ h9 => h9) rfl dX4_doOpen_1 ?_
  refine lv_istore_n (lv' := [(2, .int (M_tin M)), (0, .ref (ad 0)), (1, .int x1)]) hx hb dX4_doOpen_4 rfl hl (by decide) rfl (fun ls hl => ?_)
  refine lv_aload_n hx hb dX4_doOpen_5 rfl (lv_at hl 1 rfl) ?_
  refine va_get (D := D) (ci := 4) (v := .ref (ad 5)) (C := RX4) (T := TX4) (N := 24) hx hb hts iw_X4_doOpen_4 hown hK hP 0 rfl rfl 10 (by decide) (hts (.fieldLink RX4 22 "TownLispModel" "parts" "[I") (by decide +kernel)) (fun _ h9 => h9) rfl dX4_doOpen_6 ?_
  refine lv_iload_n hx hb dX4_doOpen_9 rfl (lv_at hl 2 rfl) ?_
  refine lv_dup2_11 hx hb dX4_doOpen_10 rfl rfl ?_
  refine va_iald hx hb hK hP 5 0 rfl rfl (hp) dX4_doOpen_11 ?_
  refine lv_iload_n hx hb dX4_doOpen_12 rfl (lv_at hl 0 rfl) ?_
  refine lv_iadd hx hb dX4_doOpen_13 ?_
  refine va_iast hx hb hK hP hD hS 5 0 rfl rfl (hp) dX4_doOpen_14 (fun H locs hP hD hS => ?_)
  have hP : va_P D vwCl (wM ad cI (M_parts' M (upd (M_parts M) x1.toNatClampNeg (((M_parts M) x1.toNatClampNeg) + (M_tin M))))) H := hP
  have hD : va_D A (wM ad cI (M_parts' M (upd (M_parts M) x1.toNatClampNeg (((M_parts M) x1.toNatClampNeg) + (M_tin M))))) := hD
  refine lv_aload_n hx hb dX4_doOpen_15 rfl (lv_at hl 1 rfl) ?_
  refine lv_iconst (v := (0 : Int32)) hx hb dX4_doOpen_16 (by decide) ?_
  refine va_put (D := D) (ci := 4) (v := .int (0 : Int32)) (ty := .int) (C := RX4) (T := TX4) (N := 24) hx hb hts iw_X4_doOpen_4 tyX4 tyX4_ok nmX4 hown hK hP hD hS 0 rfl rfl 6 (by decide) (hts (.fieldLink RX4 90 "TownLispModel" "tin" "I") (by decide +kernel)) (fun _ h9 => h9) rfl (by decide +kernel) rfl rfl (Nat.le_of_ble_eq_true rfl) dX4_doOpen_17 (fun H locs hP hD hS => ?_)
  have hP : va_P D vwCl (wM ad cI (M_tin' (M_parts' M (upd (M_parts M) x1.toNatClampNeg (((M_parts M) x1.toNatClampNeg) + (M_tin M)))) (0 : Int32))) H := hP
  have hD : va_D A (wM ad cI (M_tin' (M_parts' M (upd (M_parts M) x1.toNatClampNeg (((M_parts M) x1.toNatClampNeg) + (M_tin M)))) (0 : Int32))) := hD
  refine lv_iload_n hx hb dX4_doOpen_20 rfl (lv_at hl 0 rfl) ?_
  have hF : f_X4_doOpen M x1 = ((M_tin M), (M_tin' (M_parts' M (upd (M_parts M) x1.toNatClampNeg (((M_parts M) x1.toNatClampNeg) + (M_tin M)))) (0 : Int32))) := by rw [f_X4_doOpen]
  rw [hF]
  exact kr_i B hP hS rfl rfl dX4_doOpen_21
def fL_X4_keep_18 (M : MS) : Nat → Int32 → MS → MS
  | 0, _, v_M => v_M
  | k + 1, x1, v_M => (if (M_people v_M) ≤ x1 then v_M else fL_X4_keep_18 M k (x1 + (1 : Int32)) (M_keptParts' v_M (upd (M_keptParts v_M) x1.toNatClampNeg ((M_parts v_M) x1.toNatClampNeg))))
def f_X4_keep (M : MS) : MS := fL_X4_keep_18 M 7 (0 : Int32) (M_keptIn' (M_keptTin' M (M_tin M)) (M_isIn M))
theorem iw_X4_keep_4 : ∀ w ∈ wsX40, w ∈ wsX4_keep := fun _ h => List.mem_cons_of_mem _ (List.mem_append_right _ h)
set_option maxHeartbeats 4000000 in
set_option maxRecDepth 100000 in
theorem L_X4_keep_18 {p : Program} (l : Launch) {e : Env} {s : State} {m : MethodId} {args : Array Value} {below : List Frame} {meth : Method} {c : Code} {A : Nat → Prop} (D : va_G) (cI cO : ClassId) (tF : Nat) (ad : Nat → Nat) (M : MS) (hn : (M_people M).toInt ≤ 6) (B : Bx p s m args meth c cX4_keep 2 none wsX4_keep RX4 D cI cO tF A) : ∀ (k : Nat) (x1 : Int32) (v_M : MS), ((M_people v_M).toInt ≤ 6) → (0 ≤ x1.toInt) → (((M_people v_M).toInt - x1.toInt).toNat < k) → ∀ (H : Heap) (locs : List Loc), va_P D vwCl (wM ad cI v_M) H → va_D A (wM ad cI v_M) → va_S A s.heap H locs → ∀ ls : Array Slot, lv_has ls 2 [(0, .ref (ad 0)), (1, .int x1)] → W p l e ({ frames := 0, cells := 0, slots := 0, locals := 0 }) s m args below meth c H locs 0 0 (MQ below (Qp D none (wM ad cI (fL_X4_keep_18 M k x1 v_M)) A) args s 0 0 A) (F0 m 18 ls []) := by
  obtain ⟨hx, hb, hret, hml, hts, hown, hlocks, hE, hA⟩ := id B
  have hK := hE.1
  intro k
  induction k with
  | zero =>
    intro x1 v_M hc h0 hk
    exact absurd hk (Nat.not_lt_zero _)
  | succ k ih =>
    intro x1 v_M hc h0 hk H locs hP hD hS ls hl
    refine lv_iload_n hx hb dX4_keep_18 rfl (lv_at hl 1 rfl) ?_
    refine lv_aload_n hx hb dX4_keep_19 rfl (lv_at hl 0 rfl) ?_
    refine va_get (D := D) (ci := 4) (v := .int (M_people v_M)) (C := RX4) (T := TX4) (N := 24) hx hb hts iw_X4_keep_4 hown hK hP 0 rfl rfl 5 (by decide) (hts (.fieldLink RX4 56 "TownLispModel" "people" "I") (by decide +kernel)) (fun _ h9 => h9) rfl dX4_keep_20 ?_
    refine lv_icmp_ge (tgt := 44) hx hb dX4_keep_23 (by decide) (fun c_23 => ?_) (fun c_23 => ?_)
    · have hF : fL_X4_keep_18 M (k + 1) x1 v_M = v_M := by rw [fL_X4_keep_18, if_pos c_23]
      rw [hF]
      exact kr_v B hP hS rfl dX4_keep_44
    · refine lv_aload_n hx hb dX4_keep_26 rfl (lv_at hl 0 rfl) ?_
      refine va_get (D := D) (ci := 4) (v := .ref (ad 9)) (C := RX4) (T := TX4) (N := 24) hx hb hts iw_X4_keep_4 hown hK hP 0 rfl rfl 17 (by decide) (hts (.fieldLink RX4 34 "TownLispModel" "keptParts" "[I") (by decide +kernel)) (fun _ h9 => h9) rfl dX4_keep_27 ?_
      refine lv_iload_n hx hb dX4_keep_30 rfl (lv_at hl 1 rfl) ?_
      refine lv_aload_n hx hb dX4_keep_31 rfl (lv_at hl 0 rfl) ?_
      refine va_get (D := D) (ci := 4) (v := .ref (ad 5)) (C := RX4) (T := TX4) (N := 24) hx hb hts iw_X4_keep_4 hown hK hP 0 rfl rfl 10 (by decide) (hts (.fieldLink RX4 22 "TownLispModel" "parts" "[I") (by decide +kernel)) (fun _ h9 => h9) rfl dX4_keep_32 ?_
      refine lv_iload_n hx hb dX4_keep_35 rfl (lv_at hl 1 rfl) ?_
      refine va_iald hx hb hK hP 5 0 rfl rfl (lp_in h0 hc c_23) dX4_keep_36 ?_
      refine va_iast hx hb hK hP hD hS 9 0 rfl rfl (lp_in h0 hc c_23) dX4_keep_37 (fun H locs hP hD hS => ?_)
      have hP : va_P D vwCl (wM ad cI (M_keptParts' v_M (upd (M_keptParts v_M) x1.toNatClampNeg ((M_parts v_M) x1.toNatClampNeg)))) H := hP
      have hD : va_D A (wM ad cI (M_keptParts' v_M (upd (M_keptParts v_M) x1.toNatClampNeg ((M_parts v_M) x1.toNatClampNeg)))) := hD
      refine lv_iinc (v := (x1 + (1 : Int32))) (lv' := [(1, .int (x1 + (1 : Int32))), (0, .ref (ad 0))]) hx hb dX4_keep_38 hl (k := 1) rfl rfl (by decide) rfl (fun ls hl => ?_)
      refine lv_goto (tgt := 18) hx hb dX4_keep_41 (by decide) ?_
      have hF : fL_X4_keep_18 M (k + 1) x1 v_M = fL_X4_keep_18 M k (x1 + (1 : Int32)) (M_keptParts' v_M (upd (M_keptParts v_M) x1.toNatClampNeg ((M_parts v_M) x1.toNatClampNeg))) := by rw [fL_X4_keep_18, if_neg c_23]
      rw [hF]
      exact ih (x1 + (1 : Int32)) (M_keptParts' v_M (upd (M_keptParts v_M) x1.toNatClampNeg ((M_parts v_M) x1.toNatClampNeg))) (hc) (lp_pre h0 c_23) (lp_mu h0 c_23 hk) _ _ hP hD hS ls (lv_sub hl [1, 0] rfl)
set_option maxHeartbeats 4000000 in
set_option maxRecDepth 100000 in
theorem c_X4_keep (l : Launch) (D : va_G) (cI cO : ClassId) (tF : Nat) (ad : Nat → Nat) (M : MS) (hn : (M_people M).toInt ≤ 6) : Ct l yX4_keep wsX4_keep ({ frames := 0, cells := 0, slots := 0, locals := 0 }) D cI cO tF [.ref (ad 0)] (wM ad cI M) none (wM ad cI (f_X4_keep M)) := by
  refine Ct.of (cc := cX4_keep) (maxL := 2) (ret := none) (own := RX4) (by decide) rfl rfl (Nat.le_of_ble_eq_true rfl) ?_
  intro p e s m args below meth c A ls B hP hD hS hl
  obtain ⟨hx, hb, hret, hml, hts, hown, hlocks, hE, hA⟩ := id B
  have hK := hE.1
  have hl : lv_has ls 2 [(0, .ref (ad 0))] := hl
  refine lv_aload_n hx hb dX4_keep_0 rfl (lv_at hl 0 rfl) ?_
  refine lv_aload_n hx hb dX4_keep_1 rfl (lv_at hl 0 rfl) ?_
  refine va_get (D := D) (ci := 4) (v := .int (M_tin M)) (C := RX4) (T := TX4) (N := 24) hx hb hts iw_X4_keep_4 hown hK hP 0 rfl rfl 6 (by decide) (hts (.fieldLink RX4 90 "TownLispModel" "tin" "I") (by decide +kernel)) (fun _ h9 => h9) rfl dX4_keep_2 ?_
  refine va_put (D := D) (ci := 4) (v := .int (M_tin M)) (ty := .int) (C := RX4) (T := TX4) (N := 24) hx hb hts iw_X4_keep_4 tyX4 tyX4_ok nmX4 hown hK hP hD hS 0 rfl rfl 18 (by decide) (hts (.fieldLink RX4 151 "TownLispModel" "keptTin" "I") (by decide +kernel)) (fun _ h9 => h9) rfl (by decide +kernel) rfl rfl (Nat.le_of_ble_eq_true rfl) dX4_keep_5 (fun H locs hP hD hS => ?_)
  have hP : va_P D vwCl (wM ad cI (M_keptTin' M (M_tin M))) H := hP
  have hD : va_D A (wM ad cI (M_keptTin' M (M_tin M))) := hD
  refine lv_aload_n hx hb dX4_keep_8 rfl (lv_at hl 0 rfl) ?_
  refine lv_aload_n hx hb dX4_keep_9 rfl (lv_at hl 0 rfl) ?_
  refine va_get (D := D) (ci := 4) (v := .int (M_isIn M)) (C := RX4) (T := TX4) (N := 24) hx hb hts iw_X4_keep_4 hown hK hP 0 rfl rfl 7 (by decide) (hts (.fieldLink RX4 96 "TownLispModel" "isIn" "I") (by decide +kernel)) (fun _ h9 => h9) rfl dX4_keep_10 ?_
  refine va_put (D := D) (ci := 4) (v := .int (M_isIn M)) (ty := .int) (C := RX4) (T := TX4) (N := 24) hx hb hts iw_X4_keep_4 tyX4 tyX4_ok nmX4 hown hK hP hD hS 0 rfl rfl 19 (by decide) (hts (.fieldLink RX4 154 "TownLispModel" "keptIn" "I") (by decide +kernel)) (fun _ h9 => h9) rfl (by decide +kernel) rfl rfl (Nat.le_of_ble_eq_true rfl) dX4_keep_13 (fun H locs hP hD hS => ?_)
  have hP : va_P D vwCl (wM ad cI (M_keptIn' (M_keptTin' M (M_tin M)) (M_isIn M))) H := hP
  have hD : va_D A (wM ad cI (M_keptIn' (M_keptTin' M (M_tin M)) (M_isIn M))) := hD
  refine lv_iconst (v := (0 : Int32)) hx hb dX4_keep_16 (by decide) ?_
  refine lv_istore_n (lv' := [(1, .int (0 : Int32)), (0, .ref (ad 0))]) hx hb dX4_keep_17 rfl hl (by decide) rfl (fun ls hl => ?_)
  have hF : f_X4_keep M = fL_X4_keep_18 M 7 (0 : Int32) (M_keptIn' (M_keptTin' M (M_tin M)) (M_isIn M)) := by rw [f_X4_keep]
  rw [hF]
  exact L_X4_keep_18 l D cI cO tF ad M  hn B  7 (0 : Int32) (M_keptIn' (M_keptTin' M (M_tin M)) (M_isIn M)) (hn) (Int.le_refl _) (le6_mu hn) _ _ hP hD hS ls (lv_sub hl [1, 0] rfl)
def fL_X4_putBack_18 (M : MS) : Nat → Int32 → MS → MS
  | 0, _, v_M => v_M
  | k + 1, x1, v_M => (if (M_people v_M) ≤ x1 then v_M else fL_X4_putBack_18 M k (x1 + (1 : Int32)) (M_parts' v_M (upd (M_parts v_M) x1.toNatClampNeg ((M_keptParts v_M) x1.toNatClampNeg))))
def f_X4_putBack (M : MS) : MS := fL_X4_putBack_18 M 7 (0 : Int32) (M_isIn' (M_tin' M (M_keptTin M)) (M_keptIn M))
theorem iw_X4_putBack_4 : ∀ w ∈ wsX40, w ∈ wsX4_putBack := fun _ h => List.mem_cons_of_mem _ (List.mem_append_right _ h)
set_option maxHeartbeats 4000000 in
set_option maxRecDepth 100000 in
theorem L_X4_putBack_18 {p : Program} (l : Launch) {e : Env} {s : State} {m : MethodId} {args : Array Value} {below : List Frame} {meth : Method} {c : Code} {A : Nat → Prop} (D : va_G) (cI cO : ClassId) (tF : Nat) (ad : Nat → Nat) (M : MS) (hn : (M_people M).toInt ≤ 6) (B : Bx p s m args meth c cX4_putBack 2 none wsX4_putBack RX4 D cI cO tF A) : ∀ (k : Nat) (x1 : Int32) (v_M : MS), ((M_people v_M).toInt ≤ 6) → (0 ≤ x1.toInt) → (((M_people v_M).toInt - x1.toInt).toNat < k) → ∀ (H : Heap) (locs : List Loc), va_P D vwCl (wM ad cI v_M) H → va_D A (wM ad cI v_M) → va_S A s.heap H locs → ∀ ls : Array Slot, lv_has ls 2 [(0, .ref (ad 0)), (1, .int x1)] → W p l e ({ frames := 0, cells := 0, slots := 0, locals := 0 }) s m args below meth c H locs 0 0 (MQ below (Qp D none (wM ad cI (fL_X4_putBack_18 M k x1 v_M)) A) args s 0 0 A) (F0 m 18 ls []) := by
  obtain ⟨hx, hb, hret, hml, hts, hown, hlocks, hE, hA⟩ := id B
  have hK := hE.1
  intro k
  induction k with
  | zero =>
    intro x1 v_M hc h0 hk
    exact absurd hk (Nat.not_lt_zero _)
  | succ k ih =>
    intro x1 v_M hc h0 hk H locs hP hD hS ls hl
    refine lv_iload_n hx hb dX4_putBack_18 rfl (lv_at hl 1 rfl) ?_
    refine lv_aload_n hx hb dX4_putBack_19 rfl (lv_at hl 0 rfl) ?_
    refine va_get (D := D) (ci := 4) (v := .int (M_people v_M)) (C := RX4) (T := TX4) (N := 24) hx hb hts iw_X4_putBack_4 hown hK hP 0 rfl rfl 5 (by decide) (hts (.fieldLink RX4 56 "TownLispModel" "people" "I") (by decide +kernel)) (fun _ h9 => h9) rfl dX4_putBack_20 ?_
    refine lv_icmp_ge (tgt := 44) hx hb dX4_putBack_23 (by decide) (fun c_23 => ?_) (fun c_23 => ?_)
    · have hF : fL_X4_putBack_18 M (k + 1) x1 v_M = v_M := by rw [fL_X4_putBack_18, if_pos c_23]
      rw [hF]
      exact kr_v B hP hS rfl dX4_putBack_44
    · refine lv_aload_n hx hb dX4_putBack_26 rfl (lv_at hl 0 rfl) ?_
      refine va_get (D := D) (ci := 4) (v := .ref (ad 5)) (C := RX4) (T := TX4) (N := 24) hx hb hts iw_X4_putBack_4 hown hK hP 0 rfl rfl 10 (by decide) (hts (.fieldLink RX4 22 "TownLispModel" "parts" "[I") (by decide +kernel)) (fun _ h9 => h9) rfl dX4_putBack_27 ?_
      refine lv_iload_n hx hb dX4_putBack_30 rfl (lv_at hl 1 rfl) ?_
      refine lv_aload_n hx hb dX4_putBack_31 rfl (lv_at hl 0 rfl) ?_
      refine va_get (D := D) (ci := 4) (v := .ref (ad 9)) (C := RX4) (T := TX4) (N := 24) hx hb hts iw_X4_putBack_4 hown hK hP 0 rfl rfl 17 (by decide) (hts (.fieldLink RX4 34 "TownLispModel" "keptParts" "[I") (by decide +kernel)) (fun _ h9 => h9) rfl dX4_putBack_32 ?_
      refine lv_iload_n hx hb dX4_putBack_35 rfl (lv_at hl 1 rfl) ?_
      refine va_iald hx hb hK hP 9 0 rfl rfl (lp_in h0 hc c_23) dX4_putBack_36 ?_
      refine va_iast hx hb hK hP hD hS 5 0 rfl rfl (lp_in h0 hc c_23) dX4_putBack_37 (fun H locs hP hD hS => ?_)
      have hP : va_P D vwCl (wM ad cI (M_parts' v_M (upd (M_parts v_M) x1.toNatClampNeg ((M_keptParts v_M) x1.toNatClampNeg)))) H := hP
      have hD : va_D A (wM ad cI (M_parts' v_M (upd (M_parts v_M) x1.toNatClampNeg ((M_keptParts v_M) x1.toNatClampNeg)))) := hD
      refine lv_iinc (v := (x1 + (1 : Int32))) (lv' := [(1, .int (x1 + (1 : Int32))), (0, .ref (ad 0))]) hx hb dX4_putBack_38 hl (k := 1) rfl rfl (by decide) rfl (fun ls hl => ?_)
      refine lv_goto (tgt := 18) hx hb dX4_putBack_41 (by decide) ?_
      have hF : fL_X4_putBack_18 M (k + 1) x1 v_M = fL_X4_putBack_18 M k (x1 + (1 : Int32)) (M_parts' v_M (upd (M_parts v_M) x1.toNatClampNeg ((M_keptParts v_M) x1.toNatClampNeg))) := by rw [fL_X4_putBack_18, if_neg c_23]
      rw [hF]
      exact ih (x1 + (1 : Int32)) (M_parts' v_M (upd (M_parts v_M) x1.toNatClampNeg ((M_keptParts v_M) x1.toNatClampNeg))) (hc) (lp_pre h0 c_23) (lp_mu h0 c_23 hk) _ _ hP hD hS ls (lv_sub hl [1, 0] rfl)
set_option maxHeartbeats 4000000 in
set_option maxRecDepth 100000 in
theorem c_X4_putBack (l : Launch) (D : va_G) (cI cO : ClassId) (tF : Nat) (ad : Nat → Nat) (M : MS) (hn : (M_people M).toInt ≤ 6) : Ct l yX4_putBack wsX4_putBack ({ frames := 0, cells := 0, slots := 0, locals := 0 }) D cI cO tF [.ref (ad 0)] (wM ad cI M) none (wM ad cI (f_X4_putBack M)) := by
  refine Ct.of (cc := cX4_putBack) (maxL := 2) (ret := none) (own := RX4) (by decide) rfl rfl (Nat.le_of_ble_eq_true rfl) ?_
  intro p e s m args below meth c A ls B hP hD hS hl
  obtain ⟨hx, hb, hret, hml, hts, hown, hlocks, hE, hA⟩ := id B
  have hK := hE.1
  have hl : lv_has ls 2 [(0, .ref (ad 0))] := hl
  refine lv_aload_n hx hb dX4_putBack_0 rfl (lv_at hl 0 rfl) ?_
  refine lv_aload_n hx hb dX4_putBack_1 rfl (lv_at hl 0 rfl) ?_
  refine va_get (D := D) (ci := 4) (v := .int (M_keptTin M)) (C := RX4) (T := TX4) (N := 24) hx hb hts iw_X4_putBack_4 hown hK hP 0 rfl rfl 18 (by decide) (hts (.fieldLink RX4 151 "TownLispModel" "keptTin" "I") (by decide +kernel)) (fun _ h9 => h9) rfl dX4_putBack_2 ?_
  refine va_put (D := D) (ci := 4) (v := .int (M_keptTin M)) (ty := .int) (C := RX4) (T := TX4) (N := 24) hx hb hts iw_X4_putBack_4 tyX4 tyX4_ok nmX4 hown hK hP hD hS 0 rfl rfl 6 (by decide) (hts (.fieldLink RX4 90 "TownLispModel" "tin" "I") (by decide +kernel)) (fun _ h9 => h9) rfl (by decide +kernel) rfl rfl (Nat.le_of_ble_eq_true rfl) dX4_putBack_5 (fun H locs hP hD hS => ?_)
  have hP : va_P D vwCl (wM ad cI (M_tin' M (M_keptTin M))) H := hP
  have hD : va_D A (wM ad cI (M_tin' M (M_keptTin M))) := hD
  refine lv_aload_n hx hb dX4_putBack_8 rfl (lv_at hl 0 rfl) ?_
  refine lv_aload_n hx hb dX4_putBack_9 rfl (lv_at hl 0 rfl) ?_
  refine va_get (D := D) (ci := 4) (v := .int (M_keptIn M)) (C := RX4) (T := TX4) (N := 24) hx hb hts iw_X4_putBack_4 hown hK hP 0 rfl rfl 19 (by decide) (hts (.fieldLink RX4 154 "TownLispModel" "keptIn" "I") (by decide +kernel)) (fun _ h9 => h9) rfl dX4_putBack_10 ?_
  refine va_put (D := D) (ci := 4) (v := .int (M_keptIn M)) (ty := .int) (C := RX4) (T := TX4) (N := 24) hx hb hts iw_X4_putBack_4 tyX4 tyX4_ok nmX4 hown hK hP hD hS 0 rfl rfl 7 (by decide) (hts (.fieldLink RX4 96 "TownLispModel" "isIn" "I") (by decide +kernel)) (fun _ h9 => h9) rfl (by decide +kernel) rfl rfl (Nat.le_of_ble_eq_true rfl) dX4_putBack_13 (fun H locs hP hD hS => ?_)
  have hP : va_P D vwCl (wM ad cI (M_isIn' (M_tin' M (M_keptTin M)) (M_keptIn M))) H := hP
  have hD : va_D A (wM ad cI (M_isIn' (M_tin' M (M_keptTin M)) (M_keptIn M))) := hD
  refine lv_iconst (v := (0 : Int32)) hx hb dX4_putBack_16 (by decide) ?_
  refine lv_istore_n (lv' := [(1, .int (0 : Int32)), (0, .ref (ad 0))]) hx hb dX4_putBack_17 rfl hl (by decide) rfl (fun ls hl => ?_)
  have hF : f_X4_putBack M = fL_X4_putBack_18 M 7 (0 : Int32) (M_isIn' (M_tin' M (M_keptTin M)) (M_keptIn M)) := by rw [f_X4_putBack]
  rw [hF]
  exact L_X4_putBack_18 l D cI cO tF ad M  hn B  7 (0 : Int32) (M_isIn' (M_tin' M (M_keptTin M)) (M_keptIn M)) (hn) (Int.le_refl _) (le6_mu hn) _ _ hP hD hS ls (lv_sub hl [1, 0] rfl)
def f_X4_canBe (M : MS) (x1 : Int32) (x2 : Int32) : Int32 := (if x2 = (0 : Int32) then (if (M_isIn M) = 0 then (0 : Int32) else (1 : Int32)) else (if x2 = (1 : Int32) then (f_X4_isOf (M_isIn M) x1) else (if x2 = (2 : Int32) then (if (f_X4_isOf (M_isIn M) x1) = 0 then (1 : Int32) else (0 : Int32)) else (if x2 = (3 : Int32) then (f_X4_isOf (M_isIn M) x1) else (if x2 = (4 : Int32) then (if (f_X4_isOf (M_isIn M) x1) = 0 then (0 : Int32) else (if (M_tin M) ≤ 0 then (0 : Int32) else (1 : Int32))) else (f_X4_isOf (M_isIn M) x1))))))
theorem iw_X4_canBe_4 : ∀ w ∈ wsX40, w ∈ wsX4_canBe := fun _ h => List.mem_cons_of_mem _ (List.mem_append_right _ h)
theorem bb_X4_canBe (M : MS) (x1 : Int32) (x2 : Int32) : f_X4_canBe M x1 x2 = 0 ∨ f_X4_canBe M x1 x2 = 1 := by
  unfold f_X4_canBe
  repeat' split
  all_goals first | exact Or.inl rfl | exact Or.inr rfl | exact bb_X4_isOf _ _
set_option maxHeartbeats 4000000 in
set_option maxRecDepth 100000 in
theorem c_X4_canBe (l : Launch) (D : va_G) (cI cO : ClassId) (tF : Nat) (ad : Nat → Nat) (M : MS) (x1 : Int32) (x2 : Int32) : Ct l yX4_canBe wsX4_canBe ({ frames := 1, cells := 0, slots := 0, locals := 21 }) D cI cO tF [.ref (ad 0), .int x1, .int x2] (wM ad cI M) (some (.int (f_X4_canBe M x1 x2))) (wM ad cI M) := by
  refine Ct.of (cc := cX4_canBe) (maxL := 3) (ret := (some .boolean)) (own := RX4) (by decide) rfl rfl (Nat.le_of_ble_eq_true rfl) ?_
  intro p e s m args below meth c A ls B hP hD hS hl
  obtain ⟨hx, hb, hret, hml, hts, hown, hlocks, hE, hA⟩ := id B
  have hK := hE.1
  have hl : lv_has ls 3 [(0, .ref (ad 0)), (1, .int x1), (2, .int x2)] := hl
  refine lv_iload_n hx hb dX4_canBe_0 rfl (lv_at hl 2 rfl) ?_
  by_cases c_1_0 : x2 = (0 : Int32)
  · refine lv_tableIn (off := 35) (tgt := 36) hx hb dX4_canBe_1 (by rw [c_1_0]; decide) (by rw [c_1_0]; decide) (by rw [c_1_0]; rfl) (by decide) ?_
    refine lv_aload_n hx hb dX4_canBe_36 rfl (lv_at hl 0 rfl) ?_
    refine va_get (D := D) (ci := 4) (v := .int (M_isIn M)) (C := RX4) (T := TX4) (N := 24) hx hb hts iw_X4_canBe_4 hown hK hP 0 rfl rfl 7 (by decide) (hts (.fieldLink RX4 96 "TownLispModel" "isIn" "I") (by decide +kernel)) (fun _ h9 => h9) rfl dX4_canBe_37 ?_
    refine lv_if_eq (tgt := 47) hx hb dX4_canBe_40 (by decide) (fun c_40 => ?_) (fun c_40 => ?_)
    · refine lv_iconst (v := (0 : Int32)) hx hb dX4_canBe_47 (by decide) ?_
      have hF : f_X4_canBe M x1 x2 = (0 : Int32) := by rw [f_X4_canBe, if_pos c_1_0, if_pos c_40]
      rw [hF]
      exact kr_z B hP hS rfl rfl (Or.inl rfl) dX4_canBe_48
    · refine lv_iconst (v := (1 : Int32)) hx hb dX4_canBe_43 (by decide) ?_
      refine lv_goto (tgt := 48) hx hb dX4_canBe_44 (by decide) ?_
      have hF : f_X4_canBe M x1 x2 = (1 : Int32) := by rw [f_X4_canBe, if_pos c_1_0, if_neg c_40]
      rw [hF]
      exact kr_z B hP hS rfl rfl (Or.inr rfl) dX4_canBe_48
  by_cases c_1_1 : x2 = (1 : Int32)
  · refine lv_tableIn (off := 89) (tgt := 90) hx hb dX4_canBe_1 (by rw [c_1_1]; decide) (by rw [c_1_1]; decide) (by rw [c_1_1]; rfl) (by decide) ?_
    refine lv_aload_n hx hb dX4_canBe_90 rfl (lv_at hl 0 rfl) ?_
    refine va_get (D := D) (ci := 4) (v := .int (M_isIn M)) (C := RX4) (T := TX4) (N := 24) hx hb hts iw_X4_canBe_4 hown hK hP 0 rfl rfl 7 (by decide) (hts (.fieldLink RX4 96 "TownLispModel" "isIn" "I") (by decide +kernel)) (fun _ h9 => h9) rfl dX4_canBe_91 ?_
    refine lv_iload_n hx hb dX4_canBe_94 rfl (lv_at hl 1 rfl) ?_
    refine kc_S (As := [.int (M_isIn M), .int x1]) (rest := []) B (c_X4_isOf l D cI cO tF (M_isIn M) x1 ) (va_cwS 2 hts gX4_canBe_X4_isOf rfl rfl rfl (by decide +kernel) ⟨Nat.le_of_ble_eq_true rfl, Nat.le_of_ble_eq_true rfl⟩) hP hD hS [] rfl (by decide) (w' := wM ad cI M) rfl rfl rfl hl.1 rfl (Nat.le_of_ble_eq_true rfl) dX4_canBe_95 ⟨Nat.zero_le _, Nat.zero_le _⟩ (fun H locs hP hD hS => ?_)
    have hD : va_D A (wM ad cI M) := hD
    have hF : f_X4_canBe M x1 x2 = (f_X4_isOf (M_isIn M) x1) := by rw [f_X4_canBe, if_neg c_1_0, if_pos c_1_1]
    rw [hF]
    exact kr_z B hP hS rfl rfl (bb_X4_isOf _ _) dX4_canBe_98
  by_cases c_1_2 : x2 = (2 : Int32)
  · refine lv_tableIn (off := 48) (tgt := 49) hx hb dX4_canBe_1 (by rw [c_1_2]; decide) (by rw [c_1_2]; decide) (by rw [c_1_2]; rfl) (by decide) ?_
    refine lv_aload_n hx hb dX4_canBe_49 rfl (lv_at hl 0 rfl) ?_
    refine va_get (D := D) (ci := 4) (v := .int (M_isIn M)) (C := RX4) (T := TX4) (N := 24) hx hb hts iw_X4_canBe_4 hown hK hP 0 rfl rfl 7 (by decide) (hts (.fieldLink RX4 96 "TownLispModel" "isIn" "I") (by decide +kernel)) (fun _ h9 => h9) rfl dX4_canBe_50 ?_
    refine lv_iload_n hx hb dX4_canBe_53 rfl (lv_at hl 1 rfl) ?_
    refine kc_S (As := [.int (M_isIn M), .int x1]) (rest := []) B (c_X4_isOf l D cI cO tF (M_isIn M) x1 ) (va_cwS 2 hts gX4_canBe_X4_isOf rfl rfl rfl (by decide +kernel) ⟨Nat.le_of_ble_eq_true rfl, Nat.le_of_ble_eq_true rfl⟩) hP hD hS [] rfl (by decide) (w' := wM ad cI M) rfl rfl rfl hl.1 rfl (Nat.le_of_ble_eq_true rfl) dX4_canBe_54 ⟨Nat.zero_le _, Nat.zero_le _⟩ (fun H locs hP hD hS => ?_)
    have hD : va_D A (wM ad cI M) := hD
    refine lv_if_ne (tgt := 64) hx hb dX4_canBe_57 (by decide) (fun c_57 => ?_) (fun c_57 => ?_)
    · refine lv_iconst (v := (0 : Int32)) hx hb dX4_canBe_64 (by decide) ?_
      have hF : f_X4_canBe M x1 x2 = (0 : Int32) := by rw [f_X4_canBe, if_neg c_1_0, if_neg c_1_1, if_pos c_1_2, if_neg c_57]
      rw [hF]
      exact kr_z B hP hS rfl rfl (Or.inl rfl) dX4_canBe_65
    · refine lv_iconst (v := (1 : Int32)) hx hb dX4_canBe_60 (by decide) ?_
      refine lv_goto (tgt := 65) hx hb dX4_canBe_61 (by decide) ?_
      have hF : f_X4_canBe M x1 x2 = (1 : Int32) := by rw [f_X4_canBe, if_neg c_1_0, if_neg c_1_1, if_pos c_1_2, if_pos c_57]
      rw [hF]
      exact kr_z B hP hS rfl rfl (Or.inr rfl) dX4_canBe_65
  by_cases c_1_3 : x2 = (3 : Int32)
  · refine lv_tableIn (off := 89) (tgt := 90) hx hb dX4_canBe_1 (by rw [c_1_3]; decide) (by rw [c_1_3]; decide) (by rw [c_1_3]; rfl) (by decide) ?_
    refine lv_aload_n hx hb dX4_canBe_90 rfl (lv_at hl 0 rfl) ?_
    refine va_get (D := D) (ci := 4) (v := .int (M_isIn M)) (C := RX4) (T := TX4) (N := 24) hx hb hts iw_X4_canBe_4 hown hK hP 0 rfl rfl 7 (by decide) (hts (.fieldLink RX4 96 "TownLispModel" "isIn" "I") (by decide +kernel)) (fun _ h9 => h9) rfl dX4_canBe_91 ?_
    refine lv_iload_n hx hb dX4_canBe_94 rfl (lv_at hl 1 rfl) ?_
    refine kc_S (As := [.int (M_isIn M), .int x1]) (rest := []) B (c_X4_isOf l D cI cO tF (M_isIn M) x1 ) (va_cwS 2 hts gX4_canBe_X4_isOf rfl rfl rfl (by decide +kernel) ⟨Nat.le_of_ble_eq_true rfl, Nat.le_of_ble_eq_true rfl⟩) hP hD hS [] rfl (by decide) (w' := wM ad cI M) rfl rfl rfl hl.1 rfl (Nat.le_of_ble_eq_true rfl) dX4_canBe_95 ⟨Nat.zero_le _, Nat.zero_le _⟩ (fun H locs hP hD hS => ?_)
    have hD : va_D A (wM ad cI M) := hD
    have hF : f_X4_canBe M x1 x2 = (f_X4_isOf (M_isIn M) x1) := by rw [f_X4_canBe, if_neg c_1_0, if_neg c_1_1, if_neg c_1_2, if_pos c_1_3]
    rw [hF]
    exact kr_z B hP hS rfl rfl (bb_X4_isOf _ _) dX4_canBe_98
  by_cases c_1_4 : x2 = (4 : Int32)
  · refine lv_tableIn (off := 65) (tgt := 66) hx hb dX4_canBe_1 (by rw [c_1_4]; decide) (by rw [c_1_4]; decide) (by rw [c_1_4]; rfl) (by decide) ?_
    refine lv_aload_n hx hb dX4_canBe_66 rfl (lv_at hl 0 rfl) ?_
    refine va_get (D := D) (ci := 4) (v := .int (M_isIn M)) (C := RX4) (T := TX4) (N := 24) hx hb hts iw_X4_canBe_4 hown hK hP 0 rfl rfl 7 (by decide) (hts (.fieldLink RX4 96 "TownLispModel" "isIn" "I") (by decide +kernel)) (fun _ h9 => h9) rfl dX4_canBe_67 ?_
    refine lv_iload_n hx hb dX4_canBe_70 rfl (lv_at hl 1 rfl) ?_
    refine kc_S (As := [.int (M_isIn M), .int x1]) (rest := []) B (c_X4_isOf l D cI cO tF (M_isIn M) x1 ) (va_cwS 2 hts gX4_canBe_X4_isOf rfl rfl rfl (by decide +kernel) ⟨Nat.le_of_ble_eq_true rfl, Nat.le_of_ble_eq_true rfl⟩) hP hD hS [] rfl (by decide) (w' := wM ad cI M) rfl rfl rfl hl.1 rfl (Nat.le_of_ble_eq_true rfl) dX4_canBe_71 ⟨Nat.zero_le _, Nat.zero_le _⟩ (fun H locs hP hD hS => ?_)
    have hD : va_D A (wM ad cI M) := hD
    refine lv_if_eq (tgt := 88) hx hb dX4_canBe_74 (by decide) (fun c_74 => ?_) (fun c_74 => ?_)
    · refine lv_iconst (v := (0 : Int32)) hx hb dX4_canBe_88 (by decide) ?_
      have hF : f_X4_canBe M x1 x2 = (0 : Int32) := by rw [f_X4_canBe, if_neg c_1_0, if_neg c_1_1, if_neg c_1_2, if_neg c_1_3, if_pos c_1_4, if_pos c_74]
      rw [hF]
      exact kr_z B hP hS rfl rfl (Or.inl rfl) dX4_canBe_89
    · refine lv_aload_n hx hb dX4_canBe_77 rfl (lv_at hl 0 rfl) ?_
      refine va_get (D := D) (ci := 4) (v := .int (M_tin M)) (C := RX4) (T := TX4) (N := 24) hx hb hts iw_X4_canBe_4 hown hK hP 0 rfl rfl 6 (by decide) (hts (.fieldLink RX4 90 "TownLispModel" "tin" "I") (by decide +kernel)) (fun _ h9 => h9) rfl dX4_canBe_78 ?_
      refine lv_if_le (tgt := 88) hx hb dX4_canBe_81 (by decide) (fun c_81 => ?_) (fun c_81 => ?_)
      · refine lv_iconst (v := (0 : Int32)) hx hb dX4_canBe_88 (by decide) ?_
        have hF : f_X4_canBe M x1 x2 = (0 : Int32) := by rw [f_X4_canBe, if_neg c_1_0, if_neg c_1_1, if_neg c_1_2, if_neg c_1_3, if_pos c_1_4, if_neg c_74, if_pos c_81]
        rw [hF]
        exact kr_z B hP hS rfl rfl (Or.inl rfl) dX4_canBe_89
      · refine lv_iconst (v := (1 : Int32)) hx hb dX4_canBe_84 (by decide) ?_
        refine lv_goto (tgt := 89) hx hb dX4_canBe_85 (by decide) ?_
        have hF : f_X4_canBe M x1 x2 = (1 : Int32) := by rw [f_X4_canBe, if_neg c_1_0, if_neg c_1_1, if_neg c_1_2, if_neg c_1_3, if_pos c_1_4, if_neg c_74, if_neg c_81]
        rw [hF]
        exact kr_z B hP hS rfl rfl (Or.inr rfl) dX4_canBe_89
  refine lv_tableOut (tgt := 90) hx hb dX4_canBe_1 (sw_out5 c_1_0 c_1_1 c_1_2 c_1_3 c_1_4) (by decide) ?_
  refine lv_aload_n hx hb dX4_canBe_90 rfl (lv_at hl 0 rfl) ?_
  refine va_get (D := D) (ci := 4) (v := .int (M_isIn M)) (C := RX4) (T := TX4) (N := 24) hx hb hts iw_X4_canBe_4 hown hK hP 0 rfl rfl 7 (by decide) (hts (.fieldLink RX4 96 "TownLispModel" "isIn" "I") (by decide +kernel)) (fun _ h9 => h9) rfl dX4_canBe_91 ?_
  refine lv_iload_n hx hb dX4_canBe_94 rfl (lv_at hl 1 rfl) ?_
  refine kc_S (As := [.int (M_isIn M), .int x1]) (rest := []) B (c_X4_isOf l D cI cO tF (M_isIn M) x1 ) (va_cwS 2 hts gX4_canBe_X4_isOf rfl rfl rfl (by decide +kernel) ⟨Nat.le_of_ble_eq_true rfl, Nat.le_of_ble_eq_true rfl⟩) hP hD hS [] rfl (by decide) (w' := wM ad cI M) rfl rfl rfl hl.1 rfl (Nat.le_of_ble_eq_true rfl) dX4_canBe_95 ⟨Nat.zero_le _, Nat.zero_le _⟩ (fun H locs hP hD hS => ?_)
  have hD : va_D A (wM ad cI M) := hD
  have hF : f_X4_canBe M x1 x2 = (f_X4_isOf (M_isIn M) x1) := by rw [f_X4_canBe, if_neg c_1_0, if_neg c_1_1, if_neg c_1_2, if_neg c_1_3, if_neg c_1_4]
  rw [hF]
  exact kr_z B hP hS rfl rfl (bb_X4_isOf _ _) dX4_canBe_98
def fL_X4_factorial_4 (x0 : Int32) : Nat → Int64 → Int32 → Int64
  | 0, _, _ => 0
  | k + 1, x1, x3 => (if x0 < x3 then x1 else fL_X4_factorial_4 x0 k (x1 * x3.toInt64) (x3 + (1 : Int32)))
def f_X4_factorial (x0 : Int32) : Int64 := fL_X4_factorial_4 x0 (x0.toInt.toNat + 2) (1 : Int64) (2 : Int32)
set_option maxHeartbeats 4000000 in
set_option maxRecDepth 100000 in
theorem L_X4_factorial_4 {p : Program} (l : Launch) {e : Env} {s : State} {m : MethodId} {args : Array Value} {below : List Frame} {meth : Method} {c : Code} {A : Nat → Prop} (D : va_G) (cI cO : ClassId) (tF : Nat) (x0 : Int32) (hf : x0.toInt ≤ 1000000) (B : Bx p s m args meth c cX4_factorial 4 (some .long) wsX4_factorial RX4 D cI cO tF A) : ∀ (k : Nat) (x1 : Int64) (x3 : Int32), (0 ≤ x3.toInt) → ((x0.toInt + 1 - x3.toInt).toNat < k) → ∀ (H : Heap) (locs : List Loc), va_P D vwCl ([]) H → va_D A ([]) → va_S A s.heap H locs → ∀ ls : Array Slot, lv_has ls 4 [(0, .int x0), (1, .long x1), (3, .int x3)] → W p l e ({ frames := 0, cells := 0, slots := 0, locals := 0 }) s m args below meth c H locs 0 0 (MQ below (Qp D (some (.long (fL_X4_factorial_4 x0 k x1 x3))) ([]) A) args s 0 0 A) (F0 m 4 ls []) := by
  obtain ⟨hx, hb, hret, hml, hts, hown, hlocks, hE, hA⟩ := id B
  have hK := hE.1
  intro k
  induction k with
  | zero =>
    intro x1 x3 h0 hk
    exact absurd hk (Nat.not_lt_zero _)
  | succ k ih =>
    intro x1 x3 h0 hk H locs hP hD hS ls hl
    refine lv_iload_n hx hb dX4_factorial_4 rfl (lv_at hl 2 rfl) ?_
    refine lv_iload_n hx hb dX4_factorial_5 rfl (lv_at hl 0 rfl) ?_
    refine lv_icmp_gt (tgt := 20) hx hb dX4_factorial_6 (by decide) (fun c_6 => ?_) (fun c_6 => ?_)
    · refine lv_lload_n hx hb dX4_factorial_20 rfl (lv_at hl 1 rfl) ?_
      have hF : fL_X4_factorial_4 x0 (k + 1) x1 x3 = x1 := by rw [fL_X4_factorial_4, if_pos c_6]
      rw [hF]
      exact kr_l B hP hS rfl rfl dX4_factorial_21
    · refine lv_lload_n hx hb dX4_factorial_9 rfl (lv_at hl 1 rfl) ?_
      refine lv_iload_n hx hb dX4_factorial_10 rfl (lv_at hl 2 rfl) ?_
      refine lv_i2l (v := x3.toInt64) hx hb dX4_factorial_11 rfl ?_
      refine lv_lmul hx hb dX4_factorial_12 ?_
      refine lv_lstore_n (lv' := [(1, .long (x1 * x3.toInt64)), (0, .int x0), (3, .int x3)]) hx hb dX4_factorial_13 rfl hl (by decide) rfl (fun ls hl => ?_)
      refine lv_iinc (v := (x3 + (1 : Int32))) (lv' := [(3, .int (x3 + (1 : Int32))), (1, .long (x1 * x3.toInt64)), (0, .int x0)]) hx hb dX4_factorial_14 hl (k := 2) rfl rfl (by decide) rfl (fun ls hl => ?_)
      refine lv_goto (tgt := 4) hx hb dX4_factorial_17 (by decide) ?_
      have hF : fL_X4_factorial_4 x0 (k + 1) x1 x3 = fL_X4_factorial_4 x0 k (x1 * x3.toInt64) (x3 + (1 : Int32)) := by rw [fL_X4_factorial_4, if_neg c_6]
      rw [hF]
      exact ih (x1 * x3.toInt64) (x3 + (1 : Int32)) (lq_pre hf h0 c_6) (lq_mu hf h0 c_6 hk) _ _ hP hD hS ls (lv_sub hl [2, 1, 0] rfl)
set_option maxHeartbeats 4000000 in
set_option maxRecDepth 100000 in
theorem c_X4_factorial (l : Launch) (D : va_G) (cI cO : ClassId) (tF : Nat) (x0 : Int32) (hf : x0.toInt ≤ 1000000) : Ct l yX4_factorial wsX4_factorial ({ frames := 0, cells := 0, slots := 0, locals := 0 }) D cI cO tF [.int x0] ([]) (some (.long (f_X4_factorial x0))) ([]) := by
  refine Ct.of (cc := cX4_factorial) (maxL := 4) (ret := (some .long)) (own := RX4) (by decide) rfl rfl (Nat.le_of_ble_eq_true rfl) ?_
  intro p e s m args below meth c A ls B hP hD hS hl
  obtain ⟨hx, hb, hret, hml, hts, hown, hlocks, hE, hA⟩ := id B
  have hK := hE.1
  have hl : lv_has ls 4 [(0, .int x0)] := hl
  refine lv_lconst (v := 1) hx hb dX4_factorial_0 (by decide) ?_
  refine lv_lstore_n (lv' := [(1, .long (1 : Int64)), (0, .int x0)]) hx hb dX4_factorial_1 rfl hl (by decide) rfl (fun ls hl => ?_)
  refine lv_iconst (v := (2 : Int32)) hx hb dX4_factorial_2 (by decide) ?_
  refine lv_istore_n (lv' := [(3, .int (2 : Int32)), (1, .long (1 : Int64)), (0, .int x0)]) hx hb dX4_factorial_3 rfl hl (by decide) rfl (fun ls hl => ?_)
  have hF : f_X4_factorial x0 = fL_X4_factorial_4 x0 (x0.toInt.toNat + 2) (1 : Int64) (2 : Int32) := by rw [f_X4_factorial]
  rw [hF]
  exact L_X4_factorial_4 l D cI cO tF x0 hf B  (x0.toInt.toNat + 2) (1 : Int64) (2 : Int32) (by decide) (by rw [show (2 : Int32).toInt = 2 from rfl]; omega) _ _ hP hD hS ls (lv_sub hl [2, 1, 0] rfl)
def fL_X4_inLeastTerms_6 (x0 : Int64) (x2 : Int64) (x4 : Int32) : Nat → Int64 → Int64 → Int64
  | 0, _, _ => 0
  | k + 1, x5, x7 => (if (lg_cmp x7 (0 : Int64)) = 0 then (if x4 = 0 then (x0 / x5) else (x2 / x5)) else fL_X4_inLeastTerms_6 x0 x2 x4 k x7 (x5 - x5 / x7 * x7))
def f_X4_inLeastTerms (x0 : Int64) (x2 : Int64) (x4 : Int32) : Int64 := fL_X4_inLeastTerms_6 x0 x2 x4 (x2.toInt.toNat + 1) x0 x2
set_option maxHeartbeats 4000000 in
set_option maxRecDepth 100000 in
theorem L_X4_inLeastTerms_6 {p : Program} (l : Launch) {e : Env} {s : State} {m : MethodId} {args : Array Value} {below : List Frame} {meth : Method} {c : Code} {A : Nat → Prop} (D : va_G) (cI cO : ClassId) (tF : Nat) (x0 : Int64) (x2 : Int64) (x4 : Int32) (hu : 0 ≤ x0.toInt) (hd : 0 < x2.toInt) (B : Bx p s m args meth c cX4_inLeastTerms 11 (some .long) wsX4_inLeastTerms RX4 D cI cO tF A) : ∀ (k : Nat) (x5 : Int64) (x7 : Int64), (0 ≤ x5.toInt) → (0 ≤ x7.toInt) → (¬ x5 = 0 ∨ ¬ x7 = 0) → (x7.toInt.toNat < k) → ∀ (H : Heap) (locs : List Loc), va_P D vwCl ([]) H → va_D A ([]) → va_S A s.heap H locs → ∀ ls : Array Slot, lv_has ls 11 [(0, .long x0), (2, .long x2), (4, .int x4), (5, .long x5), (7, .long x7)] → W p l e ({ frames := 0, cells := 0, slots := 0, locals := 0 }) s m args below meth c H locs 0 0 (MQ below (Qp D (some (.long (fL_X4_inLeastTerms_6 x0 x2 x4 k x5 x7))) ([]) A) args s 0 0 A) (F0 m 6 ls []) := by
  obtain ⟨hx, hb, hret, hml, hts, hown, hlocks, hE, hA⟩ := id B
  have hK := hE.1
  intro k
  induction k with
  | zero =>
    intro x5 x7 h5 h7 hz hk
    exact absurd hk (Nat.not_lt_zero _)
  | succ k ih =>
    intro x5 x7 h5 h7 hz hk H locs hP hD hS ls hl
    refine lv_lload hx hb dX4_inLeastTerms_6 (lv_at hl 4 rfl) ?_
    refine lv_lconst (v := 0) hx hb dX4_inLeastTerms_8 (by decide) ?_
    refine W.lcmp hx hb dX4_inLeastTerms_9 ?_
    refine lv_if_eq (tgt := 31) hx hb dX4_inLeastTerms_10 (by decide) (fun c_10 => ?_) (fun c_10 => ?_)
    · refine lv_iload hx hb dX4_inLeastTerms_31 (lv_at hl 2 rfl) ?_
      refine lv_if_ne (tgt := 43) hx hb dX4_inLeastTerms_33 (by decide) (fun c_33 => ?_) (fun c_33 => ?_)
      · refine lv_lload_n hx hb dX4_inLeastTerms_43 rfl (lv_at hl 1 rfl) ?_
        refine lv_lload hx hb dX4_inLeastTerms_44 (lv_at hl 3 rfl) ?_
        refine lv_ldiv hx hb dX4_inLeastTerms_46 (il_nz hz c_10) ?_
        have hF : fL_X4_inLeastTerms_6 x0 x2 x4 (k + 1) x5 x7 = (x2 / x5) := by rw [fL_X4_inLeastTerms_6, if_pos c_10, if_neg c_33]
        rw [hF]
        exact kr_l B hP hS rfl rfl dX4_inLeastTerms_47
      · refine lv_lload_n hx hb dX4_inLeastTerms_36 rfl (lv_at hl 0 rfl) ?_
        refine lv_lload hx hb dX4_inLeastTerms_37 (lv_at hl 3 rfl) ?_
        refine lv_ldiv hx hb dX4_inLeastTerms_39 (il_nz hz c_10) ?_
        refine lv_goto (tgt := 47) hx hb dX4_inLeastTerms_40 (by decide) ?_
        have hF : fL_X4_inLeastTerms_6 x0 x2 x4 (k + 1) x5 x7 = (x0 / x5) := by rw [fL_X4_inLeastTerms_6, if_pos c_10, if_pos c_33]
        rw [hF]
        exact kr_l B hP hS rfl rfl dX4_inLeastTerms_47
    · refine lv_lload hx hb dX4_inLeastTerms_13 (lv_at hl 3 rfl) ?_
      refine lv_lload hx hb dX4_inLeastTerms_15 (lv_at hl 4 rfl) ?_
      refine lv_lrem hx hb dX4_inLeastTerms_17 (lc_ne c_10) ?_
      refine lv_lstore (lv' := [(9, .long (x5 - x5 / x7 * x7)), (0, .long x0), (2, .long x2), (4, .int x4), (5, .long x5), (7, .long x7)]) hx hb dX4_inLeastTerms_18 hl (by decide) rfl (fun ls hl => ?_)
      refine lv_lload hx hb dX4_inLeastTerms_20 (lv_at hl 5 rfl) ?_
      refine lv_lstore (lv' := [(5, .long x7), (9, .long (x5 - x5 / x7 * x7)), (0, .long x0), (2, .long x2), (4, .int x4), (7, .long x7)]) hx hb dX4_inLeastTerms_22 hl (by decide) rfl (fun ls hl => ?_)
      refine lv_lload hx hb dX4_inLeastTerms_24 (lv_at hl 1 rfl) ?_
      refine lv_lstore (lv' := [(7, .long (x5 - x5 / x7 * x7)), (5, .long x7), (9, .long (x5 - x5 / x7 * x7)), (0, .long x0), (2, .long x2), (4, .int x4)]) hx hb dX4_inLeastTerms_26 hl (by decide) rfl (fun ls hl => ?_)
      refine lv_goto (tgt := 6) hx hb dX4_inLeastTerms_28 (by decide) ?_
      have hF : fL_X4_inLeastTerms_6 x0 x2 x4 (k + 1) x5 x7 = fL_X4_inLeastTerms_6 x0 x2 x4 k x7 (x5 - x5 / x7 * x7) := by rw [fL_X4_inLeastTerms_6, if_neg c_10]
      rw [hF]
      exact ih x7 (x5 - x5 / x7 * x7) (h7) (il_7 h5 h7 c_10) (Or.inl (lc_ne c_10)) (il_mu h5 h7 c_10 hk) _ _ hP hD hS ls (lv_sub hl [3, 4, 5, 1, 0] rfl)
set_option maxHeartbeats 4000000 in
set_option maxRecDepth 100000 in
theorem c_X4_inLeastTerms (l : Launch) (D : va_G) (cI cO : ClassId) (tF : Nat) (x0 : Int64) (x2 : Int64) (x4 : Int32) (hu : 0 ≤ x0.toInt) (hd : 0 < x2.toInt) : Ct l yX4_inLeastTerms wsX4_inLeastTerms ({ frames := 0, cells := 0, slots := 0, locals := 0 }) D cI cO tF [.long x0, .long x2, .int x4] ([]) (some (.long (f_X4_inLeastTerms x0 x2 x4))) ([]) := by
  refine Ct.of (cc := cX4_inLeastTerms) (maxL := 11) (ret := (some .long)) (own := RX4) (by decide) rfl rfl (Nat.le_of_ble_eq_true rfl) ?_
  intro p e s m args below meth c A ls B hP hD hS hl
  obtain ⟨hx, hb, hret, hml, hts, hown, hlocks, hE, hA⟩ := id B
  have hK := hE.1
  have hl : lv_has ls 11 [(0, .long x0), (2, .long x2), (4, .int x4)] := hl
  refine lv_lload_n hx hb dX4_inLeastTerms_0 rfl (lv_at hl 0 rfl) ?_
  refine lv_lstore (lv' := [(5, .long x0), (0, .long x0), (2, .long x2), (4, .int x4)]) hx hb dX4_inLeastTerms_1 hl (by decide) rfl (fun ls hl => ?_)
  refine lv_lload_n hx hb dX4_inLeastTerms_3 rfl (lv_at hl 2 rfl) ?_
  refine lv_lstore (lv' := [(7, .long x2), (5, .long x0), (0, .long x0), (2, .long x2), (4, .int x4)]) hx hb dX4_inLeastTerms_4 hl (by decide) rfl (fun ls hl => ?_)
  have hF : f_X4_inLeastTerms x0 x2 x4 = fL_X4_inLeastTerms_6 x0 x2 x4 (x2.toInt.toNat + 1) x0 x2 := by rw [f_X4_inLeastTerms]
  rw [hF]
  exact L_X4_inLeastTerms_6 l D cI cO tF x0 x2 x4 hu hd B  (x2.toInt.toNat + 1) x0 x2 (hu) (Int.le_of_lt hd) (Or.inr (ps_nz hd)) (Nat.lt_succ_self _) _ _ hP hD hS ls (lv_sub hl [2, 3, 4, 1, 0] rfl)
def fL_X4_missingTo_4 (M : MS) (x1 : Int32) : Nat → Int32 → Int32 → Int32
  | 0, _, _ => 0
  | k + 1, x2, x3 => (if (M_people M) ≤ x3 then x2 else (if (f_X4_isOf (M_isIn M) x3) = 0 then fL_X4_missingTo_4 M x1 k (x2 + (0 : Int32)) (x3 + (1 : Int32)) else (if x1 ≤ ((M_parts M) x3.toNatClampNeg) then fL_X4_missingTo_4 M x1 k (x2 + (0 : Int32)) (x3 + (1 : Int32)) else fL_X4_missingTo_4 M x1 k (x2 + (x1 - ((M_parts M) x3.toNatClampNeg))) (x3 + (1 : Int32)))))
def f_X4_missingTo (M : MS) (x1 : Int32) : Int32 := fL_X4_missingTo_4 M x1 7 (0 : Int32) (0 : Int32)
theorem iw_X4_missingTo_4 : ∀ w ∈ wsX40, w ∈ wsX4_missingTo := fun _ h => List.mem_cons_of_mem _ (List.mem_append_right _ h)
set_option maxHeartbeats 4000000 in
set_option maxRecDepth 100000 in
theorem L_X4_missingTo_4 {p : Program} (l : Launch) {e : Env} {s : State} {m : MethodId} {args : Array Value} {below : List Frame} {meth : Method} {c : Code} {A : Nat → Prop} (D : va_G) (cI cO : ClassId) (tF : Nat) (ad : Nat → Nat) (M : MS) (x1 : Int32) (hn : (M_people M).toInt ≤ 6) (B : Bx p s m args meth c cX4_missingTo 4 (some .int) wsX4_missingTo RX4 D cI cO tF A) : ∀ (k : Nat) (x2 : Int32) (x3 : Int32), (0 ≤ x3.toInt) → (((M_people M).toInt - x3.toInt).toNat < k) → ∀ (H : Heap) (locs : List Loc), va_P D vwCl (wM ad cI M) H → va_D A (wM ad cI M) → va_S A s.heap H locs → ∀ ls : Array Slot, lv_has ls 4 [(0, .ref (ad 0)), (1, .int x1), (2, .int x2), (3, .int x3)] → W p l e ({ frames := 1, cells := 0, slots := 0, locals := 21 }) s m args below meth c H locs 0 0 (MQ below (Qp D (some (.int (fL_X4_missingTo_4 M x1 k x2 x3))) (wM ad cI M) A) args s 0 0 A) (F0 m 4 ls []) := by
  obtain ⟨hx, hb, hret, hml, hts, hown, hlocks, hE, hA⟩ := id B
  have hK := hE.1
  intro k
  induction k with
  | zero =>
    intro x2 x3 h0 hk
    exact absurd hk (Nat.not_lt_zero _)
  | succ k ih =>
    intro x2 x3 h0 hk H locs hP hD hS ls hl
    refine lv_iload_n hx hb dX4_missingTo_4 rfl (lv_at hl 3 rfl) ?_
    refine lv_aload_n hx hb dX4_missingTo_5 rfl (lv_at hl 0 rfl) ?_
    refine va_get (D := D) (ci := 4) (v := .int (M_people M)) (C := RX4) (T := TX4) (N := 24) hx hb hts iw_X4_missingTo_4 hown hK hP 0 rfl rfl 5 (by decide) (hts (.fieldLink RX4 56 "TownLispModel" "people" "I") (by decide +kernel)) (fun _ h9 => h9) rfl dX4_missingTo_6 ?_
    refine lv_icmp_ge (tgt := 54) hx hb dX4_missingTo_9 (by decide) (fun c_9 => ?_) (fun c_9 => ?_)
    · refine lv_iload_n hx hb dX4_missingTo_54 rfl (lv_at hl 2 rfl) ?_
      have hF : fL_X4_missingTo_4 M x1 (k + 1) x2 x3 = x2 := by rw [fL_X4_missingTo_4, if_pos c_9]
      rw [hF]
      exact kr_i B hP hS rfl rfl dX4_missingTo_55
    · refine lv_iload_n hx hb dX4_missingTo_12 rfl (lv_at hl 2 rfl) ?_
      refine lv_aload_n hx hb dX4_missingTo_13 rfl (lv_at hl 0 rfl) ?_
      refine va_get (D := D) (ci := 4) (v := .int (M_isIn M)) (C := RX4) (T := TX4) (N := 24) hx hb hts iw_X4_missingTo_4 hown hK hP 0 rfl rfl 7 (by decide) (hts (.fieldLink RX4 96 "TownLispModel" "isIn" "I") (by decide +kernel)) (fun _ h9 => h9) rfl dX4_missingTo_14 ?_
      refine lv_iload_n hx hb dX4_missingTo_17 rfl (lv_at hl 3 rfl) ?_
      refine kc_S (As := [.int (M_isIn M), .int x3]) (rest := [.int x2]) B (c_X4_isOf l D cI cO tF (M_isIn M) x3 ) (va_cwS 2 hts gX4_missingTo_X4_isOf rfl rfl rfl (by decide +kernel) ⟨Nat.le_of_ble_eq_true rfl, Nat.le_of_ble_eq_true rfl⟩) hP hD hS [] rfl (by decide) (w' := wM ad cI M) rfl rfl rfl hl.1 rfl (Nat.le_of_ble_eq_true rfl) dX4_missingTo_18 ⟨Nat.zero_le _, Nat.zero_le _⟩ (fun H locs hP hD hS => ?_)
      have hD : va_D A (wM ad cI M) := hD
      refine lv_if_eq (tgt := 45) hx hb dX4_missingTo_21 (by decide) (fun c_21 => ?_) (fun c_21 => ?_)
      · refine lv_iconst (v := (0 : Int32)) hx hb dX4_missingTo_45 (by decide) ?_
        refine lv_iadd hx hb dX4_missingTo_46 ?_
        refine lv_istore_n (lv' := [(2, .int (x2 + (0 : Int32))), (0, .ref (ad 0)), (1, .int x1), (3, .int x3)]) hx hb dX4_missingTo_47 rfl hl (by decide) rfl (fun ls hl => ?_)
        refine lv_iinc (v := (x3 + (1 : Int32))) (lv' := [(3, .int (x3 + (1 : Int32))), (2, .int (x2 + (0 : Int32))), (0, .ref (ad 0)), (1, .int x1)]) hx hb dX4_missingTo_48 hl (k := 3) rfl rfl (by decide) rfl (fun ls hl => ?_)
        refine lv_goto (tgt := 4) hx hb dX4_missingTo_51 (by decide) ?_
        have hF : fL_X4_missingTo_4 M x1 (k + 1) x2 x3 = fL_X4_missingTo_4 M x1 k (x2 + (0 : Int32)) (x3 + (1 : Int32)) := by rw [fL_X4_missingTo_4, if_neg c_9, if_pos c_21]
        rw [hF]
        exact ih (x2 + (0 : Int32)) (x3 + (1 : Int32)) (lp_pre h0 c_9) (lp_mu h0 c_9 hk) _ _ hP hD hS ls (lv_sub hl [2, 3, 1, 0] rfl)
      · refine lv_aload_n hx hb dX4_missingTo_24 rfl (lv_at hl 0 rfl) ?_
        refine va_get (D := D) (ci := 4) (v := .ref (ad 5)) (C := RX4) (T := TX4) (N := 24) hx hb hts iw_X4_missingTo_4 hown hK hP 0 rfl rfl 10 (by decide) (hts (.fieldLink RX4 22 "TownLispModel" "parts" "[I") (by decide +kernel)) (fun _ h9 => h9) rfl dX4_missingTo_25 ?_
        refine lv_iload_n hx hb dX4_missingTo_28 rfl (lv_at hl 3 rfl) ?_
        refine va_iald hx hb hK hP 5 0 rfl rfl (lp_in h0 hn c_9) dX4_missingTo_29 ?_
        refine lv_iload_n hx hb dX4_missingTo_30 rfl (lv_at hl 1 rfl) ?_
        refine lv_icmp_ge (tgt := 45) hx hb dX4_missingTo_31 (by decide) (fun c_31 => ?_) (fun c_31 => ?_)
        · refine lv_iconst (v := (0 : Int32)) hx hb dX4_missingTo_45 (by decide) ?_
          refine lv_iadd hx hb dX4_missingTo_46 ?_
          refine lv_istore_n (lv' := [(2, .int (x2 + (0 : Int32))), (0, .ref (ad 0)), (1, .int x1), (3, .int x3)]) hx hb dX4_missingTo_47 rfl hl (by decide) rfl (fun ls hl => ?_)
          refine lv_iinc (v := (x3 + (1 : Int32))) (lv' := [(3, .int (x3 + (1 : Int32))), (2, .int (x2 + (0 : Int32))), (0, .ref (ad 0)), (1, .int x1)]) hx hb dX4_missingTo_48 hl (k := 3) rfl rfl (by decide) rfl (fun ls hl => ?_)
          refine lv_goto (tgt := 4) hx hb dX4_missingTo_51 (by decide) ?_
          have hF : fL_X4_missingTo_4 M x1 (k + 1) x2 x3 = fL_X4_missingTo_4 M x1 k (x2 + (0 : Int32)) (x3 + (1 : Int32)) := by rw [fL_X4_missingTo_4, if_neg c_9, if_neg c_21, if_pos c_31]
          rw [hF]
          exact ih (x2 + (0 : Int32)) (x3 + (1 : Int32)) (lp_pre h0 c_9) (lp_mu h0 c_9 hk) _ _ hP hD hS ls (lv_sub hl [2, 3, 1, 0] rfl)
        · refine lv_iload_n hx hb dX4_missingTo_34 rfl (lv_at hl 1 rfl) ?_
          refine lv_aload_n hx hb dX4_missingTo_35 rfl (lv_at hl 0 rfl) ?_
          refine va_get (D := D) (ci := 4) (v := .ref (ad 5)) (C := RX4) (T := TX4) (N := 24) hx hb hts iw_X4_missingTo_4 hown hK hP 0 rfl rfl 10 (by decide) (hts (.fieldLink RX4 22 "TownLispModel" "parts" "[I") (by decide +kernel)) (fun _ h9 => h9) rfl dX4_missingTo_36 ?_
          refine lv_iload_n hx hb dX4_missingTo_39 rfl (lv_at hl 3 rfl) ?_
          refine va_iald hx hb hK hP 5 0 rfl rfl (lp_in h0 hn c_9) dX4_missingTo_40 ?_
          refine lv_isub hx hb dX4_missingTo_41 ?_
          refine lv_goto (tgt := 46) hx hb dX4_missingTo_42 (by decide) ?_
          refine lv_iadd hx hb dX4_missingTo_46 ?_
          refine lv_istore_n (lv' := [(2, .int (x2 + (x1 - ((M_parts M) x3.toNatClampNeg)))), (0, .ref (ad 0)), (1, .int x1), (3, .int x3)]) hx hb dX4_missingTo_47 rfl hl (by decide) rfl (fun ls hl => ?_)
          refine lv_iinc (v := (x3 + (1 : Int32))) (lv' := [(3, .int (x3 + (1 : Int32))), (2, .int (x2 + (x1 - ((M_parts M) x3.toNatClampNeg)))), (0, .ref (ad 0)), (1, .int x1)]) hx hb dX4_missingTo_48 hl (k := 3) rfl rfl (by decide) rfl (fun ls hl => ?_)
          refine lv_goto (tgt := 4) hx hb dX4_missingTo_51 (by decide) ?_
          have hF : fL_X4_missingTo_4 M x1 (k + 1) x2 x3 = fL_X4_missingTo_4 M x1 k (x2 + (x1 - ((M_parts M) x3.toNatClampNeg))) (x3 + (1 : Int32)) := by rw [fL_X4_missingTo_4, if_neg c_9, if_neg c_21, if_neg c_31]
          rw [hF]
          exact ih (x2 + (x1 - ((M_parts M) x3.toNatClampNeg))) (x3 + (1 : Int32)) (lp_pre h0 c_9) (lp_mu h0 c_9 hk) _ _ hP hD hS ls (lv_sub hl [2, 3, 1, 0] rfl)
set_option maxHeartbeats 4000000 in
set_option maxRecDepth 100000 in
theorem c_X4_missingTo (l : Launch) (D : va_G) (cI cO : ClassId) (tF : Nat) (ad : Nat → Nat) (M : MS) (x1 : Int32) (hn : (M_people M).toInt ≤ 6) : Ct l yX4_missingTo wsX4_missingTo ({ frames := 1, cells := 0, slots := 0, locals := 21 }) D cI cO tF [.ref (ad 0), .int x1] (wM ad cI M) (some (.int (f_X4_missingTo M x1))) (wM ad cI M) := by
  refine Ct.of (cc := cX4_missingTo) (maxL := 4) (ret := (some .int)) (own := RX4) (by decide) rfl rfl (Nat.le_of_ble_eq_true rfl) ?_
  intro p e s m args below meth c A ls B hP hD hS hl
  obtain ⟨hx, hb, hret, hml, hts, hown, hlocks, hE, hA⟩ := id B
  have hK := hE.1
  have hl : lv_has ls 4 [(0, .ref (ad 0)), (1, .int x1)] := hl
  refine lv_iconst (v := (0 : Int32)) hx hb dX4_missingTo_0 (by decide) ?_
  refine lv_istore_n (lv' := [(2, .int (0 : Int32)), (0, .ref (ad 0)), (1, .int x1)]) hx hb dX4_missingTo_1 rfl hl (by decide) rfl (fun ls hl => ?_)
  refine lv_iconst (v := (0 : Int32)) hx hb dX4_missingTo_2 (by decide) ?_
  refine lv_istore_n (lv' := [(3, .int (0 : Int32)), (2, .int (0 : Int32)), (0, .ref (ad 0)), (1, .int x1)]) hx hb dX4_missingTo_3 rfl hl (by decide) rfl (fun ls hl => ?_)
  have hF : f_X4_missingTo M x1 = fL_X4_missingTo_4 M x1 7 (0 : Int32) (0 : Int32) := by rw [f_X4_missingTo]
  rw [hF]
  exact L_X4_missingTo_4 l D cI cO tF ad M x1 hn B  7 (0 : Int32) (0 : Int32) (Int.le_refl _) (by rw [show (0 : Int32).toInt = 0 from rfl]; omega) _ _ hP hD hS ls (lv_sub hl [2, 3, 1, 0] rfl)
