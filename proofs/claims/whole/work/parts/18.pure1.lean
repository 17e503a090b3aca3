/-! what the acts leave as it was: how many people there are -/
theorem ho_c (T : TN) (x1 x2 x3 : Int32) : ∀ (k : Nat) (x4 x5 : Int32) (P : Nat → Int32), T_count (fL_X2_handOut_28 T x1 x2 x3 k x4 x5 P) = T_count T := by
  intro k
  induction k with
  | zero => intros; rfl
  | succ k ih =>
    intro x4 x5 P
    rw [fL_X2_handOut_28]
    repeat' split
    all_goals first | rfl | exact ih _ _ _
theorem handOut_c (T : TN) (x1 x2 : Int32) : T_count (f_X2_handOut T x1 x2) = T_count T := by
  unfold f_X2_handOut
  split
  · rfl
  · exact ho_c _ _ _ _ _ _ _ _
theorem sf_c (T : TN) (x1 x2 x3 : Int32) : ∀ (k : Nat) (x4 : Int32) (P : Nat → Int32), T_count (fL_X2_shareFrom_17 T x1 x2 x3 k x4 P).2 = T_count T := by
  intro k
  induction k with
  | zero => intros; rfl
  | succ k ih =>
    intro x4 P
    rw [fL_X2_shareFrom_17]
    repeat' split
    all_goals first | rfl | exact ih _ _ | exact handOut_c _ _ _
theorem gt_c (T : TN) (x1 : Int32) : ∀ (k : Nat) (x2 x3 : Int32) (P : Nat → Int32), T_count (fL_X2_giveTo_4 T x1 k x2 x3 P).2 = T_count T := by
  intro k
  induction k with
  | zero => intros; rfl
  | succ k ih =>
    intro x2 x3 P
    rw [fL_X2_giveTo_4]
    repeat' split
    all_goals first | rfl | exact ih _ _ _
theorem goOut_c (T : TN) (x1 : Int32) : T_count (f_X2_goOut T x1).2 = T_count T := by
  unfold f_X2_goOut
  exact handOut_c _ _ _
theorem acts_count (T : TN) (x1 x2 : Int32) : T_count (f_X2_acts T x1 x2).2 = T_count T := by
  unfold f_X2_acts
  repeat' split
  all_goals first | rfl | exact sf_c _ _ _ _ _ _ _ | exact gt_c _ _ _ _ _ _ | exact goOut_c _ _
theorem acts_c {T : TN} {x1 x2 : Int32} (hc : (T_count T).toInt ≤ 6) : (T_count (f_X2_acts T x1 x2).2).toInt ≤ 6 := by
  rw [acts_count]; exact hc
theorem bl_L (T O : TN) : ∀ (k : Nat) (x2 : Int32) (v : TN), T_count (fL_X2_becomeLike_26 T O k x2 v) = T_count v := by
  intro k
  induction k with
  | zero => intros; rfl
  | succ k ih =>
    intro x2 v
    rw [fL_X2_becomeLike_26]
    split
    · rfl
    · exact ih _ _
theorem bl_c {T O : TN} (hn : (T_count O).toInt ≤ 6) : (T_count (f_X2_becomeLike T O)).toInt ≤ 6 := by
  unfold f_X2_becomeLike
  rw [bl_L]
  exact hn
