/-- what a year's acts may change: parts, who is in, the tin, and the row that a day uses -/
def frv (M : MS) := (M_people M, M_cells M, M_thick M, M_kind M, M_sorts M, M_sheetLong M, M_fault M, M_trace M, M_days M, M_readings M, M_readWho M, M_readParts M, M_readSaid M, M_keptParts M, M_keptTin M, M_keptIn M)
def fr (M M' : MS) : Prop := frv M' = frv M
theorem fr_refl (M : MS) : fr M M := rfl
theorem fr_trans {M M' M'' : MS} (h : fr M M') (h2 : fr M' M'') : fr M M'' := Eq.trans h2 h
theorem fr_people {M M' : MS} (h : fr M M') : M_people M' = M_people M := congrArg (fun t => t.1) h
theorem fr_cells {M M' : MS} (h : fr M M') : M_cells M' = M_cells M := congrArg (fun t => t.2.1) h
theorem fr_thick {M M' : MS} (h : fr M M') : M_thick M' = M_thick M := congrArg (fun t => t.2.2.1) h
theorem fr_54 (M : MS) (x1 : Int32) : ∀ (k : Nat) (x2 : Int32) (S P : Nat → Int32), fr M (fL_X4_doDay_54 M x1 k x2 S P) ∧ M_isIn (fL_X4_doDay_54 M x1 k x2 S P) = M_isIn M := by
  intro k
  induction k with
  | zero => intros; exact ⟨rfl, rfl⟩
  | succ k ih =>
    intro x2 S P
    rw [fL_X4_doDay_54]
    split
    · exact ⟨rfl, rfl⟩
    · exact ih _ _ _
theorem fr_d2 (M : MS) (x1 : Int32) : ∀ (k : Nat) (x2 : Int32) (S : Nat → Int32), fr M (fL_X4_doDay_2 M x1 k x2 S) ∧ M_isIn (fL_X4_doDay_2 M x1 k x2 S) = M_isIn M := by
  intro k
  induction k with
  | zero => intros; exact ⟨rfl, rfl⟩
  | succ k ih =>
    intro x2 S
    rw [fL_X4_doDay_2]
    split
    · exact fr_54 _ _ _ _ _ _
    · split
      · exact ih _ _
      · exact ih _ _
theorem fr_l48 (M : MS) (x1 : Int32) : ∀ (k : Nat) (x2 x3 I : Int32) (P : Nat → Int32), fr M (fL_X4_doLeave_48 M x1 k x2 x3 I P) ∧ M_isIn (fL_X4_doLeave_48 M x1 k x2 x3 I P) = I := by
  intro k
  induction k with
  | zero => intros; exact ⟨rfl, rfl⟩
  | succ k ih =>
    intro x2 x3 I P
    rw [fL_X4_doLeave_48]
    repeat' split
    all_goals first | exact ⟨rfl, rfl⟩ | exact ih _ _ _ _
theorem fr_leave (M : MS) (x1 : Int32) : fr M (f_X4_doLeave M x1) ∧ M_isIn (f_X4_doLeave M x1) = ((M_isIn M) &&& (((1 : Int32) <<< (x1 &&& 31)) ^^^ (-1 : Int32))) := by
  unfold f_X4_doLeave
  split
  · exact ⟨rfl, rfl⟩
  · exact fr_l48 _ _ _ _ _ _ _
theorem fr_g4 (M : MS) (x1 : Int32) : ∀ (k : Nat) (x2 x3 : Int32) (P : Nat → Int32), fr M (fL_X4_doGather_4 M x1 k x2 x3 P).2 ∧ M_isIn (fL_X4_doGather_4 M x1 k x2 x3 P).2 = M_isIn M := by
  intro k
  induction k with
  | zero => intros; exact ⟨rfl, rfl⟩
  | succ k ih =>
    intro x2 x3 P
    rw [fL_X4_doGather_4]
    repeat' split
    all_goals first | exact ⟨rfl, rfl⟩ | exact ih _ _ _
theorem fr_does (M : MS) (x1 x2 : Int32) : fr M (f_X4_does M x1 x2) := by
  unfold f_X4_does
  repeat' split
  · exact (fr_d2 _ _ _ _ _).1
  · exact (fr_leave _ _).1
  · rfl
  · exact (fr_g4 _ _ _ _ _ _).1
  · rfl
theorem t_so : ∀ (b : Fin 7) (a : Fin 64) (j : Fin 6), a.val < 2 ^ b.val → j.val < b.val → (0 ≤ (nI a.val &&& (((1 : Int32) <<< (nI j.val &&& 31)) ^^^ (-1 : Int32))).toInt ∧ (nI a.val &&& (((1 : Int32) <<< (nI j.val &&& 31)) ^^^ (-1 : Int32))).toInt < 2 ^ b.val) ∧ (0 ≤ (nI a.val ||| ((1 : Int32) <<< (nI j.val &&& 31))).toInt ∧ (nI a.val ||| ((1 : Int32) <<< (nI j.val &&& 31))).toInt < 2 ^ b.val) := by decide +kernel
theorem so_bits {s n p : Int32} (h : so s n) (hp : 0 ≤ p.toInt ∧ p.toInt < n.toInt) : so (s &&& (((1 : Int32) <<< (p &&& 31)) ^^^ (-1 : Int32))) n ∧ so (s ||| ((1 : Int32) <<< (p &&& 31))) n := by
  have h' := h
  obtain ⟨a, b, hb, ha, rfl, rfl⟩ := so_nI h
  have hb2 : (nI b).toInt = b := nI_toInt (by omega)
  have e := i_nI hp.1
  rw [hb2] at hp
  obtain ⟨h1, h2⟩ := t_so ⟨b, by omega⟩ ⟨a, pw6 hb ha⟩ ⟨p.toInt.toNat, by omega⟩ ha (show p.toInt.toNat < b by omega)
  rw [← e] at h1 h2
  refine ⟨⟨h'.1, h1.1, ?_⟩, ⟨h'.1, h2.1, ?_⟩⟩
  · rw [hb2, Int.toNat_natCast]; exact h1.2
  · rw [hb2, Int.toNat_natCast]; exact h2.2
theorem does_so {M : MS} {p a : Int32} (h : so (M_isIn M) (M_people M)) (hp : 0 ≤ p.toInt ∧ p.toInt < (M_people M).toInt) : so (M_isIn (f_X4_does M p a)) (M_people (f_X4_does M p a)) := by
  rw [fr_people (fr_does M p a)]
  unfold f_X4_does
  repeat' split
  · rw [show M_isIn (f_X4_doDay M p) = M_isIn M from (fr_d2 _ _ _ _ _).2]; exact h
  · rw [(fr_leave _ _).2]; exact (so_bits h hp).1
  · exact (so_bits h hp).2
  · rw [show M_isIn (f_X4_doGather M p).2 = M_isIn M from (fr_g4 _ _ _ _ _ _).2]; exact h
  · exact h
theorem cb_0 {M : MS} {p a : Int32} (h : ¬ f_X4_canBe M p a = 0) : a = (0 : Int32) → ¬ (M_isIn M) = 0 := by
  intro e h2
  apply h
  unfold f_X4_canBe
  rw [if_pos e, if_pos h2]
theorem fr_n {M v : MS} (h : fr M v) (hn : (M_people M).toInt ≤ 6) : (M_people v).toInt ≤ 6 := by rw [fr_people h]; exact hn
theorem fr_pa {M v : MS} {i : Nat} (h : fr M v) (hp : 0 ≤ ((M_cells M) i).toInt ∧ ((M_cells M) i).toInt < (M_people M).toInt) : 0 ≤ ((M_cells v) i).toInt ∧ ((M_cells v) i).toInt < (M_people v).toInt := by
  rw [fr_people h, fr_cells h]; exact hp
/-- keep changes what it keeps alone -/
def kfv (M : MS) := (M_people M, M_isIn M, M_cells M, M_thick M, M_tin M, M_parts M, M_kind M, M_sorts M, M_sheetLong M, M_fault M, M_trace M, M_days M, M_readings M, M_readWho M, M_readParts M, M_readSaid M)
def kf (M M' : MS) : Prop := kfv M' = kfv M
theorem kf_L (M : MS) : ∀ (k : Nat) (x1 : Int32) (v : MS), kf v (fL_X4_keep_18 M k x1 v) := by
  intro k
  induction k with
  | zero => intros; rfl
  | succ k ih =>
    intro x1 v
    rw [fL_X4_keep_18]
    split
    · rfl
    · exact ih _ (M_keptParts' v _)
theorem kf_keep (M : MS) : kf M (f_X4_keep M) := kf_L M 7 0 (M_keptIn' (M_keptTin' M (M_tin M)) (M_isIn M))
theorem kf_people {M M' : MS} (h : kf M M') : M_people M' = M_people M := congrArg (fun t => t.1) h
theorem kf_isIn {M M' : MS} (h : kf M M') : M_isIn M' = M_isIn M := congrArg (fun t => t.2.1) h
theorem kf_cells {M M' : MS} (h : kf M M') : M_cells M' = M_cells M := congrArg (fun t => t.2.2.1) h
theorem kf_thick {M M' : MS} (h : kf M M') : M_thick M' = M_thick M := congrArg (fun t => t.2.2.2.1) h
theorem kf_so {M : MS} (h : so (M_isIn M) (M_people M)) : so (M_isIn (f_X4_keep M)) (M_people (f_X4_keep M)) := by
  rw [kf_isIn (kf_keep M), kf_people (kf_keep M)]; exact h
/-! the text of a town -/
theorem at_s {M : MS} {e : Int32} (ha : 0 ≤ (M_at M).toInt) (he : e.toInt ≤ 240) (c : ¬ e ≤ (M_at M)) : 0 ≤ ((M_at M) + (1 : Int32)).toInt := lp_pre ha c
theorem dg_at {M : MS} {e a b : Int32} (ha : 0 ≤ (M_at M).toInt) (he : e.toInt ≤ 240) : 0 ≤ (M_at (f_X4_digit M e a b).2).toInt := by
  unfold f_X4_digit
  split
  · exact ha
  · rename_i c
    split
    · exact ha
    · exact at_s ha he c
theorem dg_rp {M : MS} {e a b : Int32} : M_readPeople (f_X4_digit M e a b).2 = M_readPeople M := by
  unfold f_X4_digit
  repeat' split
  all_goals rfl
theorem sg_at {M : MS} {e x : Int32} (ha : 0 ≤ (M_at M).toInt) (he : e.toInt ≤ 240) : 0 ≤ (M_at (f_X4_isSign M e x).2).toInt := by
  unfold f_X4_isSign
  split
  · exact ha
  · rename_i c
    split
    · exact at_s ha he c
    · exact ha
theorem sg_rp {M : MS} {e x : Int32} : M_readPeople (f_X4_isSign M e x).2 = M_readPeople M := by
  unfold f_X4_isSign
  repeat' split
  all_goals rfl
