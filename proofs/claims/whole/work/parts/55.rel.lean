/-! THE RELATION of the class's state and the reference's -/
def sumP (P : Nat → Int32) : Nat → Int
  | 0 => 0
  | n + 1 => sumP P n + (P n).toInt
def RelS (s : SH) (k ln : Int32) (c : Nat → Int32) : Prop :=
  ((S_held s = 0 ∧ k = (-9 : Int32)) ∨ (S_held s = 1 ∧ k = S_lane s ∧ (0 ≤ (S_lane s).toInt ∧ (S_lane s).toInt ≤ 2) ∧ S_length s = ln ∧ ∀ i : Nat, i < 60 → S_cells s i = c i)) ∧ (0 ≤ (S_length s).toInt ∧ (S_length s).toInt ≤ 60) ∧ (0 ≤ ln.toInt ∧ ln.toInt ≤ 60)
def RelP (T : TN) (M : MS) (i : Nat) : Prop := M_kind M i = T_kind T i ∧ M_parts M i = T_parts T i ∧ M_thick M i = T_thick T i ∧ (0 ≤ (M_kind M i).toInt ∧ (M_kind M i).toInt ≤ 2) ∧ 0 ≤ (M_parts M i).toInt ∧ (1 ≤ (M_thick M i).toInt ∧ (M_thick M i).toInt ≤ 9)
def RelT (T : TN) (M : MS) : Prop :=
  (M_people M = T_count T ∧ M_isIn M = T_inside T ∧ M_tin M = T_tin T) ∧ so (M_isIn M) (M_people M) ∧ (∀ i : Nat, (i : Int) < (M_people M).toInt → RelP T M i) ∧ 0 ≤ (M_tin M).toInt ∧ (M_tin M).toInt + sumP (M_parts M) (M_people M).toInt.toNat ≤ 283
def RelR (R : RD) (M : MS) : Prop :=
  M_readings M = R_count R ∧ (0 ≤ (M_readings M).toInt ∧ (M_readings M).toInt ≤ 8) ∧ ∀ r : Nat, (r : Int) < (M_readings M).toInt → M_readWho M r = R_person R r ∧ M_readParts M r = R_parts R r ∧ M_readSaid M r = R_amount R r ∧ (0 ≤ (M_readWho M r).toInt ∧ (M_readWho M r).toInt < (M_people M).toInt) ∧ (0 ≤ (M_readParts M r).toInt ∧ (M_readParts M r).toInt ≤ 300)
def Rel (X : XS) (M : MS) : Prop :=
  RelT (X_now X) M ∧ RelR (X_said X) M ∧ (M_days M = X_daysGone X ∧ M_trace M = X_traced X ∧ M_fault M = X_latestFault X) ∧ ∀ j : Nat, j < 4 → RelS (X_sheets X j) (M_sorts M j) (M_sheetLong M j) (fun i => M_cells M (60 * j + i))
section RELH
variable {X : XS} {M : MS}
theorem Rel.so (h : Rel X M) : so (M_isIn M) (M_people M) := h.1.2.1
theorem Rel.mn (h : Rel X M) : (M_people M).toInt ≤ 6 := h.1.2.1.1.2
theorem Rel.xn (h : Rel X M) : (T_count (X_now X)).toInt ≤ 6 := by rw [← h.1.1.1]; exact h.mn
theorem Rel.ht (h : Rel X M) : ∀ i : Nat, (i : Int) < (M_people M).toInt → ¬ M_thick M i = 0 := by
  intro i hi e
  have h1 := (h.1.2.2.1 i hi).2.2.2.2.2.1
  rw [e] at h1
  exact absurd h1 (by decide)
theorem Rel.mr (h : Rel X M) : 0 ≤ (M_readings M).toInt ∧ (M_readings M).toInt ≤ 8 := h.2.1.2.1
theorem Rel.mw (h : Rel X M) : ∀ r : Nat, (r : Int) < (M_readings M).toInt → vp_in (M_readWho M r) 6 ∧ ¬ (M_thick M) (M_readWho M r).toNatClampNeg = 0 := by
  intro r hr
  have h1 := (h.2.1.2.2 r hr).2.2.2.1
  exact ⟨q_in h.mn h1, h.ht _ (q_cl h1)⟩
theorem Rel.xr0 (h : Rel X M) : 0 ≤ (R_count (X_said X)).toInt := by rw [← h.2.1.1]; exact h.mr.1
theorem Rel.xr (h : Rel X M) : (R_count (X_said X)).toInt ≤ 8 := by rw [← h.2.1.1]; exact h.mr.2
theorem Rel.xq (h : Rel X M) : ∀ r : Nat, (r : Int) < (R_count (X_said X)).toInt → vp_in (R_person (X_said X) r) 6 := by
  intro r hr
  rw [← h.2.1.1] at hr
  have h1 := h.2.1.2.2 r hr
  rw [← h1.1]
  exact q_in h.mn h1.2.2.2.1
theorem Rel.xL (h : Rel X M) : ∀ j : Nat, j < 4 → (S_length (X_sheets X j)).toInt ≤ 60 := fun j hj => (h.2.2.2 j hj).2.1.2
theorem Rel.mL (h : Rel X M) : ∀ i : Nat, i < 4 → 0 ≤ (M_sheetLong M i).toInt ∧ (M_sheetLong M i).toInt ≤ 60 := fun j hj => (h.2.2.2 j hj).2.2
end RELH
theorem rel0 : Rel X0 M0 := by
  refine ⟨⟨⟨rfl, rfl, rfl⟩, ⟨⟨by decide, by decide⟩, by decide, by decide⟩, fun i hi => ?_, by decide, by decide⟩, ⟨rfl, ⟨by decide, by decide⟩, fun r hr => ?_⟩, ⟨rfl, rfl, rfl⟩, fun j hj => ?_⟩
  · exact absurd hi (by show ¬ ((i : Int) < (0 : Int32).toInt); rw [show (0 : Int32).toInt = 0 from rfl]; omega)
  · exact absurd hr (by show ¬ ((r : Int) < (0 : Int32).toInt); rw [show (0 : Int32).toInt = 0 from rfl]; omega)
  · refine ⟨Or.inl ⟨rfl, ?_⟩, ⟨by show 0 ≤ (0 : Int32).toInt; decide, by show (0 : Int32).toInt ≤ 60; decide⟩, ⟨by show 0 ≤ (0 : Int32).toInt; decide, by show (0 : Int32).toInt ≤ 60; decide⟩⟩
    rcases (show j = 0 ∨ j = 1 ∨ j = 2 ∨ j = 3 by omega) with rfl | rfl | rfl | rfl <;> rfl
