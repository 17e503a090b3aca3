theorem rt_L {M : MS} {e : Int32} (he : e.toInt ≤ 240) : ∀ (k : Nat) (v : MS), 0 ≤ (M_at v).toInt → (0 ≤ (M_readPeople v).toInt ∧ (M_readPeople v).toInt ≤ 6) → ¬ (fL_X4_readTown_38 M e k v).1 = 0 → (M_readPeople (fL_X4_readTown_38 M e k v).2).toInt ≤ 6 := by
  intro k
  induction k with
  | zero => intro v h1 h2 h3; exact absurd rfl h3
  | succ k ih =>
    intro v h1 h2 h3
    have go : (0 ≤ (M_readPeople (f_X4_isSign v e (59 : Int32)).2).toInt ∧ (M_readPeople (f_X4_isSign v e (59 : Int32)).2).toInt ≤ 5) → ¬ (f_X4_readPerson (f_X4_isSign v e (59 : Int32)).2 e).1 = 0 → ¬ (fL_X4_readTown_38 M e k (f_X4_readPerson (f_X4_isSign v e (59 : Int32)).2 e).2).1 = 0 → (M_readPeople (fL_X4_readTown_38 M e k (f_X4_readPerson (f_X4_isSign v e (59 : Int32)).2 e).2).2).toInt ≤ 6 := by
      intro a b c
      have s1 : 0 ≤ (M_at (f_X4_isSign v e (59 : Int32)).2).toInt := sg_at (M := v) (e := e) (x := (59 : Int32)) h1 he
      exact ih _ (rpn_at s1 he a) (rpn_6 s1 he a b) c
    rw [fL_X4_readTown_38] at h3 ⊢
    by_cases c1 : (M_readPeople v) < (2 : Int32)
    · rw [if_pos c1] at h3 ⊢
      by_cases c2 : (f_X4_isSign v e (59 : Int32)).1 = 0
      · rw [if_pos c2] at h3; exact absurd rfl h3
      · rw [if_neg c2] at h3 ⊢
        by_cases c3 : (f_X4_readPerson (f_X4_isSign v e (59 : Int32)).2 e).1 = 0
        · rw [if_pos c3] at h3; exact absurd rfl h3
        · rw [if_neg c3] at h3 ⊢
          exact go (rpq2 (M := v) (e := e) (x := (59 : Int32)) h2 c1) c3 h3
    · rw [if_neg c1] at h3 ⊢
      by_cases c4 : (6 : Int32) ≤ (M_readPeople v)
      · rw [if_pos c4] at h3 ⊢
        split
        · exact h2.2
        · exact h2.2
      · rw [if_neg c4] at h3 ⊢
        by_cases c5 : e ≤ (M_at v)
        · rw [if_pos c5] at h3 ⊢
          split
          · exact h2.2
          · exact h2.2
        · rw [if_neg c5] at h3 ⊢
          by_cases c2 : (f_X4_isSign v e (59 : Int32)).1 = 0
          · rw [if_pos c2] at h3; exact absurd rfl h3
          · rw [if_neg c2] at h3 ⊢
            by_cases c3 : (f_X4_readPerson (f_X4_isSign v e (59 : Int32)).2 e).1 = 0
            · rw [if_pos c3] at h3; exact absurd rfl h3
            · rw [if_neg c3] at h3 ⊢
              exact go (rpq6 (M := v) (e := e) (x := (59 : Int32)) h2 c4) c3 h3
theorem rt_6 {M : MS} {e : Int32} (ha : 0 ≤ (M_at M).toInt) (he : e.toInt ≤ 240) (h : ¬ (f_X4_readTown M e).1 = 0) : (M_readPeople (f_X4_readTown M e).2).toInt ≤ 6 := by
  unfold f_X4_readTown at h ⊢
  by_cases c1 : (f_X4_isSign (M_readPeople' M (0 : Int32)) e (116 : Int32)).1 = 0
  · rw [if_pos c1] at h; exact absurd rfl h
  · rw [if_neg c1] at h ⊢
    by_cases c2 : (f_X4_twoDigits (f_X4_isSign (M_readPeople' M (0 : Int32)) e (116 : Int32)).2 e (4 : Int32)).1 = (-9 : Int32)
    · rw [if_pos c2] at h; exact absurd rfl h
    · rw [if_neg c2] at h ⊢
      have s1 : 0 ≤ (M_at (f_X4_isSign (M_readPeople' M (0 : Int32)) e (116 : Int32)).2).toInt := sg_at (M := M_readPeople' M (0 : Int32)) (e := e) (x := (116 : Int32)) ha he
      have s2 := td_at (M := (f_X4_isSign (M_readPeople' M (0 : Int32)) e (116 : Int32)).2) (e := e) (x := (4 : Int32)) s1 he
      exact rt_L he _ _ s2 (rt_0 (M := M) (e := e)) h
