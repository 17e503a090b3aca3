/-! the relation: first rows -/
theorem wi_ite {α : Type} (v a b : Int32) (A B : α) : (if f_X4_within v a b = 0 then A else B) = (if v < a then A else (if b < v then A else B)) := by
  unfold f_X4_within
  by_cases c1 : v < a
  · rw [if_pos c1, if_pos c1, if_pos rfl]
  · by_cases c2 : b < v
    · rw [if_neg c1, if_neg c1, if_pos c2, if_pos c2, if_pos rfl]
    · simp only [if_neg c1, if_neg c2]
      exact if_neg (by decide)
theorem le_ite {α : Type} (x y : Int32) (A B : α) : (if x ≤ y then B else A) = (if y < x then A else B) := by
  by_cases c : x ≤ y
  · rw [if_pos c, if_neg (by rw [fa_le] at c; rw [fa_lt]; omega)]
  · rw [if_neg c, if_pos (fa_of_nle c)]
theorem rel_has {X : XS} {M : MS} (hR : Rel X M) (p : Int32) : f_X2_has (X_now X) p = f_X4_isPerson M p := by
  unfold f_X2_has f_X4_isPerson
  rw [hR.1.1.1]
theorem mem_eq (s p : Int32) : f_X3_isMember s p = f_X4_isOf s p := rfl
theorem t_bs : ∀ a : Fin 64, f_J6_bitCount_0f7a4 (nI a.val) = f_X4_size (nI a.val) := by decide +kernel
theorem so_bs {s n : Int32} (h : so s n) : f_J6_bitCount_0f7a4 s = f_X4_size s := by
  obtain ⟨a, ha, rfl⟩ := so_64 h
  exact t_bs ⟨a, ha⟩
theorem Rel.per {X : XS} {M : MS} (h : Rel X M) {p : Int32} (c : ¬ f_X4_isPerson M p = 0) : RelP (X_now X) M p.toNatClampNeg := h.1.2.2.1 _ (q_cl (mi_r c))
theorem Rel.fault {X : XS} {M : MS} (h : Rel X M) (v : Int32) : Rel (X_latestFault' X v) (M_fault' M v) := ⟨h.1, h.2.1, ⟨h.2.2.1.1, h.2.2.1.2.1, rfl⟩, h.2.2.2⟩
theorem Rel.trace {X : XS} {M : MS} (h : Rel X M) (v : Int32) : Rel (X_traced' X v) (M_trace' M v) := ⟨h.1, h.2.1, ⟨h.2.2.1.1, rfl, h.2.2.1.2.2⟩, h.2.2.2⟩
theorem Rel.begin {X : XS} {M : MS} (h : Rel X M) (v : Int32) : Rel (f_X3_begin X v) (f_X4_begins M v) := by
  unfold f_X3_begin f_X4_begins
  rw [h.2.2.1.2.1]
  exact h.trace _
theorem rel_trace {X : XS} {M : MS} (hR : Rel X M) : (f_X3_trace X) = (f_X4_trace M) := hR.2.2.1.2.1.symm
theorem rel_fault {X : XS} {M : MS} (hR : Rel X M) : (f_X3_fault X) = (f_X4_fault M) := hR.2.2.1.2.2.symm
theorem rel_many {X : XS} {M : MS} (hR : Rel X M) (x1 : Int32) : (f_X3_many X x1) = (f_X4_many M x1) := by
  unfold f_X3_many f_X4_many f_X2_heads
  rw [← hR.1.1.1, ← hR.1.1.2.1, ← hR.1.1.2.2, so_bs hR.so, ← hR.2.2.1.1, ← hR.2.1.1]
theorem rel_rounds {X : XS} {M : MS} (hR : Rel X M) (x1 x2 : Int32) : (f_X3_rounds X x1 x2) = (f_X4_rounds M x1 x2) := by
  unfold f_X3_rounds f_X4_rounds
  rw [wi_ite, wi_ite, ← hR.1.1.1, ← hR.1.1.2.2, le_ite]
theorem rel_as {X : XS} {M : MS} (hR : Rel X M) (x1 x2 : Int32) : (f_X3_as X x1 x2).1 = (f_X4_as M x1 x2).1 ∧ Rel (f_X3_as X x1 x2).2 (f_X4_as M x1 x2).2 := by
  have hR' := hR.fault (0 : Int32)
  unfold f_X3_as f_X4_as
  rw [rel_has hR, show f_X4_isPerson (M_fault' M (0 : Int32)) x1 = f_X4_isPerson M x1 from rfl, wi_ite]
  by_cases c1 : f_X4_isPerson M x1 = 0
  · simp only [if_pos c1]; exact ⟨trivial, hR'⟩
  · simp only [if_neg c1]
    by_cases c2 : x2 < 0
    · simp only [if_pos c2]; exact ⟨trivial, hR'⟩
    · simp only [if_neg c2]
      rw [le_ite x2 (2 : Int32)]
      by_cases c3 : (2 : Int32) < x2
      · simp only [if_pos c3]; exact ⟨trivial, hR'⟩
      · simp only [if_neg c3]
        rw [(hR.per c1).1, le_ite]
        by_cases c4 : T_kind (X_now X) x1.toNatClampNeg < x2
        · simp only [if_pos c4]; exact ⟨rfl, hR'.fault _⟩
        · simp only [if_neg c4]; exact ⟨trivial, hR'⟩
theorem rel_call {X : XS} {M : MS} (hR : Rel X M) (x1 : Int32) : (f_X3_call X x1).1 = (f_X4_call M x1).1 ∧ Rel (f_X3_call X x1).2 (f_X4_call M x1).2 := by
  unfold f_X3_call f_X4_call
  rw [rel_has hR, show M_kind (f_X4_begins M (5 : Int32)) = M_kind M from rfl, show M_kind (f_X4_begins M (4 : Int32)) = M_kind M from rfl]
  by_cases c1 : f_X4_isPerson M x1 = 0
  · simp only [if_pos c1]; exact ⟨trivial, hR⟩
  · simp only [if_neg c1]
    rw [(hR.per c1).1]
    by_cases c2 : T_kind (X_now X) x1.toNatClampNeg = (2 : Int32)
    · simp only [if_pos c2]; exact ⟨rfl, hR.begin _⟩
    · simp only [if_neg c2]; exact ⟨rfl, hR.begin _⟩
theorem kind3 {k : Int32} (h : 0 ≤ k.toInt ∧ k.toInt ≤ 2) : k = 0 ∨ k = 1 ∨ k = 2 := by
  rw [fa_eq, fa_eq, fa_eq, show (0 : Int32).toInt = 0 from rfl, show (1 : Int32).toInt = 1 from rfl, show (2 : Int32).toInt = 2 from rfl]
  omega
theorem two_t (a : Int32) : (a + (100 : Int32)) + a = (2 : Int32) * a + (100 : Int32) := by
  apply Int32.toBitVec_inj.1
  show (a.toBitVec + 100#32) + a.toBitVec = 2#32 * a.toBitVec + 100#32
  rw [BitVec.two_mul]
  ac_rfl
theorem rel_tell {X : XS} {M : MS} (hR : Rel X M) (x1 : Int32) : (f_X3_tell X x1).1 = (f_X4_tell M x1).1 ∧ Rel (f_X3_tell X x1).2 (f_X4_tell M x1).2 := by
  unfold f_X3_tell f_X4_tell
  rw [rel_has hR]
  by_cases c1 : f_X4_isPerson M x1 = 0
  · simp only [if_pos c1]; exact ⟨trivial, hR⟩
  · simp only [if_neg c1]
    have hp := hR.per c1
    have e2 : T_thick (X_now X) x1.toNatClampNeg = M_thick M x1.toNatClampNeg := hp.2.2.1.symm
    rw [hp.1]
    have hk := hp.2.2.2.1
    rw [hp.1] at hk
    rcases kind3 hk with e | e | e
    · rw [e, if_pos rfl, if_neg (by decide), if_neg (by decide)]
      exact ⟨e2, hR.begin _⟩
    · rw [e, if_neg (by decide), if_pos rfl, if_pos rfl]
      exact ⟨congrArg (· + (100 : Int32)) e2, (hR.begin _).begin _⟩
    · rw [e, if_neg (by decide), if_neg (by decide), if_neg (by decide), if_pos rfl]
      refine ⟨?_, (((hR.begin _).begin _).begin _).begin _⟩
      show (T_thick (X_now X) x1.toNatClampNeg + (100 : Int32)) + T_thick (X_now X) x1.toNatClampNeg = _
      rw [e2, two_t]
theorem rel_back {X : XS} {M : MS} (hR : Rel X M) (x1 : Int32) : (f_X3_back X x1).1 = (f_X4_back M x1).1 ∧ Rel (f_X3_back X x1).2 (f_X4_back M x1).2 := by
  unfold f_X3_back f_X4_back
  rw [wi_ite, le_ite, ← hR.2.1.1]
  by_cases c1 : x1 < 0
  · simp only [if_pos c1]; exact ⟨trivial, hR⟩
  · simp only [if_neg c1]
    by_cases c2 : M_readings M < x1
    · simp only [if_pos c2]; exact ⟨trivial, hR⟩
    · simp only [if_neg c2]
      refine ⟨trivial, hR.1, ⟨rfl, ?_, ?_⟩, hR.2.2.1, hR.2.2.2⟩
      · have h := hR.mr
        rw [fa_lt, show (0 : Int32).toInt = 0 from rfl] at c1
        rw [fa_lt] at c2
        show 0 ≤ (M_readings M - x1).toInt ∧ (M_readings M - x1).toInt ≤ 8
        rw [fb_subI (by omega) (by omega)]
        omega
      · intro r hr
        have h := hR.mr
        rw [fa_lt, show (0 : Int32).toInt = 0 from rfl] at c1
        rw [fa_lt] at c2
        refine hR.2.1.2.2 r ?_
        have h2 : (r : Int) < (M_readings M - x1).toInt := hr
        rw [fb_subI (by omega) (by omega)] at h2
        omega
