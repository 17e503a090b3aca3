/-! one person's text -/
theorem n_a2 (a : Nat) : nI a + (2 : Int32) = nI (a + 2) := nI_add a 2
theorem n_a3 (a : Nat) : nI a + (3 : Int32) = nI (a + 3) := nI_add a 3
theorem n_a4 (a : Nat) : nI a + (4 : Int32) = nI (a + 4) := nI_add a 4
theorem n_a5 (a : Nat) : nI a + (5 : Int32) = nI (a + 5) := nI_add a 5
theorem n_4m (a : Nat) : (4 : Int32) * nI a = nI (4 * a) := nI_mul 4 a
theorem n_m6 (a : Nat) : nI a * (6 : Int32) = nI (a * 6) := nI_mul a 6
def PF (C : Nat → Int32) (F n k : Nat) (w : MS) (res : Int32 × MS) : Prop := res.1 = 0 ∧ ∃ m, (3 + 6 * k < m ∧ m < 3 + 6 * (k + 1)) ∧ St C F n m ∧ M_at res.2 = nI (F + m) ∧ kf w res.2
def PS (C : Nat → Int32) (F n k : Nat) (w : MS) (res : Int32 × MS) : Prop := Gd C F n (3 + 6 * (k + 1)) ∧ ¬ res.1 = 0 ∧ M_at res.2 = nI (F + (3 + 6 * (k + 1))) ∧ kf w res.2 ∧ M_readTin res.2 = M_readTin w ∧ M_readPeople res.2 = nI (k + 1)
theorem PF.tr {C : Nat → Int32} {F n k : Nat} {v w : MS} {res : Int32 × MS} (h : kf v w) (p : PF C F n k w res) : PF C F n k v res := by
  obtain ⟨p1, m, p2, p3, p4, p5⟩ := p
  exact ⟨p1, m, p2, p3, p4, kf_trans h p5⟩
theorem PS.tr {C : Nat → Int32} {F n k : Nat} {v w : MS} {res : Int32 × MS} (h : kf v w) (h2 : M_readTin w = M_readTin v) (p : PS C F n k w res) : PS C F n k v res := ⟨p.1, p.2.1, p.2.2.1, kf_trans h p.2.2.2.1, p.2.2.2.2.1.trans h2, p.2.2.2.2.2⟩
section RP
variable {C : Nat → Int32} {F n k : Nat} {w : MS}
theorem r150_c (M : MS) (hF : F + n ≤ 240) (hk : k < 6) (hj : Gd C F n (3 + 6 * k + 5)) (ec : M_cells w = C) (ea : M_at w = nI (F + (3 + 6 * k + 5))) (er : M_readPeople w = nI k) :
    (PS C F n k w (fL_X4_readPerson_150 M (nI (F + n)) (nI (4 * k)) 1 w) ∧ M_read (fL_X4_readPerson_150 M (nI (F + n)) (nI (4 * k)) 1 w).2 = upd (M_read w) (4 * k + 3) (C (F + (3 + 6 * k + 5)) - (48 : Int32)) ∧ (48 ≤ (C (F + (3 + 6 * k + 5))).toInt ∧ (C (F + (3 + 6 * k + 5))).toInt ≤ 49)) ∨ PF C F n k w (fL_X4_readPerson_150 M (nI (F + n)) (nI (4 * k)) 1 w) := by
  have D := dg_c (w := w) (lo := (0 : Int32)) (hi := (1 : Int32)) (L := (48 : Int32)) (H := (49 : Int32)) hF hj ec ea (by decide) (by decide) (by decide) (by decide) ((go_p hk (by omega) _).trans (pg_5 _))
  rw [fL_X4_readPerson_150, n_a3, nI_clamp (by omega), pk_us]
  generalize f_X4_digit w (nI (F + n)) (0 : Int32) (1 : Int32) = d at D ⊢
  rcases D with ⟨g1, g2, g3, g4, g5, g6⟩ | ⟨g1, g2⟩
  · rw [if_neg g6]
    have q5 := rq_kf g5
    have q6 := rq_rt g5
    refine Or.inl ⟨⟨?_, ?_, ?_, q5, q6, ?_⟩, ?_, g3⟩
    · rw [show 3 + 6 * (k + 1) = 3 + 6 * k + 5 + 1 by omega]; exact g1
    · show ¬ (1 : Int32) = 0
      decide
    · rw [show 3 + 6 * (k + 1) = 3 + 6 * k + 5 + 1 by omega]; exact g4
    · show M_readPeople d.2 + (1 : Int32) = nI (k + 1)
      rw [rq_rp g5, er, nI_1]
    · show upd (M_read d.2) (4 * k + 3) d.1 = _
      rw [rq_read g5, g2]
  · rw [g2, if_pos rfl]
    exact Or.inr ⟨rfl, 3 + 6 * k + 5, ⟨by omega, by omega⟩, g1, ea, rfl⟩
theorem r119_c (M : MS) (hF : F + n ≤ 240) (hk : k < 6) (hj : Gd C F n (3 + 6 * k + 4)) (ec : M_cells w = C) (ea : M_at w = nI (F + (3 + 6 * k + 4))) (er : M_readPeople w = nI k) :
    (PS C F n k w (fL_X4_readPerson_119 M (nI (F + n)) (nI (4 * k)) 1 w) ∧ M_read (fL_X4_readPerson_119 M (nI (F + n)) (nI (4 * k)) 1 w).2 = upd (upd (M_read w) (4 * k + 2) (C (F + (3 + 6 * k + 4)) - (48 : Int32))) (4 * k + 3) (C (F + (3 + 6 * k + 5)) - (48 : Int32)) ∧ (49 ≤ (C (F + (3 + 6 * k + 4))).toInt ∧ (C (F + (3 + 6 * k + 4))).toInt ≤ 57) ∧ (48 ≤ (C (F + (3 + 6 * k + 5))).toInt ∧ (C (F + (3 + 6 * k + 5))).toInt ≤ 49)) ∨ PF C F n k w (fL_X4_readPerson_119 M (nI (F + n)) (nI (4 * k)) 1 w) := by
  have D := dg_c (w := w) (lo := (1 : Int32)) (hi := (9 : Int32)) (L := (49 : Int32)) (H := (57 : Int32)) hF hj ec ea (by decide) (by decide) (by decide) (by decide) ((go_p hk (by omega) _).trans (pg_4 _))
  rw [fL_X4_readPerson_119, n_a2, nI_clamp (by omega), pk_us]
  generalize f_X4_digit w (nI (F + n)) (1 : Int32) (9 : Int32) = d at D ⊢
  rcases D with ⟨g1, g2, g3, g4, g5, g6⟩ | ⟨g1, g2⟩
  · rw [if_neg g6]
    have q5 := rq_kf g5
    have e1 : kf w (M_read' d.2 (upd (M_read d.2) (4 * k + 2) d.1)) := q5
    have q6 := rq_rt g5
    have e2 : M_readTin (M_read' d.2 (upd (M_read d.2) (4 * k + 2) d.1)) = M_readTin w := q6
    have e3 : M_read (M_read' d.2 (upd (M_read d.2) (4 * k + 2) d.1)) = upd (M_read w) (4 * k + 2) (C (F + (3 + 6 * k + 4)) - (48 : Int32)) := by
      show upd (M_read d.2) (4 * k + 2) d.1 = _
      rw [rq_read g5, g2]
    have e4 : M_cells (M_read' d.2 (upd (M_read d.2) (4 * k + 2) d.1)) = C := (rq_c g5).trans ec
    have e5 : M_at (M_read' d.2 (upd (M_read d.2) (4 * k + 2) d.1)) = nI (F + (3 + 6 * k + 5)) := g4
    have e6 : M_readPeople (M_read' d.2 (upd (M_read d.2) (4 * k + 2) d.1)) = nI k := (rq_rp g5).trans er
    generalize M_read' d.2 (upd (M_read d.2) (4 * k + 2) d.1) = y at e1 e2 e3 e4 e5 e6 ⊢
    rcases r150_c M hF hk g1 e4 e5 e6 with ⟨h1, h2, h3⟩ | h1
    · exact Or.inl ⟨h1.tr e1 e2, by rw [h2, e3], g3, h3⟩
    · exact Or.inr (h1.tr e1)
  · rw [g2, if_pos rfl]
    exact Or.inr ⟨rfl, 3 + 6 * k + 4, ⟨by omega, by omega⟩, g1, ea, rfl⟩
theorem r80_c (M : MS) (hF : F + n ≤ 240) (hk : k < 6) (hj : Gd C F n (3 + 6 * k + 2)) (ec : M_cells w = C) (ea : M_at w = nI (F + (3 + 6 * k + 1))) (er : M_readPeople w = nI k) :
    (PS C F n k w (fL_X4_readPerson_80 M (nI (F + n)) (nI (4 * k)) 1 w) ∧ M_read (fL_X4_readPerson_80 M (nI (F + n)) (nI (4 * k)) 1 w).2 = upd (upd (upd (M_read w) (4 * k + 1) ((10 : Int32) * (C (F + (3 + 6 * k + 2)) - (48 : Int32)) + (C (F + (3 + 6 * k + 3)) - (48 : Int32)))) (4 * k + 2) (C (F + (3 + 6 * k + 4)) - (48 : Int32))) (4 * k + 3) (C (F + (3 + 6 * k + 5)) - (48 : Int32)) ∧ (48 ≤ (C (F + (3 + 6 * k + 2))).toInt ∧ (C (F + (3 + 6 * k + 2))).toInt ≤ 51) ∧ (48 ≤ (C (F + (3 + 6 * k + 3))).toInt ∧ (C (F + (3 + 6 * k + 3))).toInt ≤ 57) ∧ (49 ≤ (C (F + (3 + 6 * k + 4))).toInt ∧ (C (F + (3 + 6 * k + 4))).toInt ≤ 57) ∧ (48 ≤ (C (F + (3 + 6 * k + 5))).toInt ∧ (C (F + (3 + 6 * k + 5))).toInt ≤ 49)) ∨ PF C F n k w (fL_X4_readPerson_80 M (nI (F + n)) (nI (4 * k)) 1 w) := by
  have hjn := hj.1
  have D := td_c (C := C) (F := F) (n := n) (j := 3 + 6 * k + 2) (w := M_at' w (nI (F + (3 + 6 * k + 1) + 1))) (hi := (3 : Int32)) (H := (51 : Int32)) hF hj ec rfl (by decide) (by decide) ((go_p hk (by omega) _).trans (pg_2 _)) ((go_p hk (r := 3) (by omega) _).trans (pg_3 _))
  rw [fL_X4_readPerson_80, ea, nI_1, nI_1, nI_clamp (by omega), pk_us]
  generalize f_X4_twoDigits (M_at' w (nI (F + (3 + 6 * k + 1) + 1))) (nI (F + n)) (3 : Int32) = d at D ⊢
  rcases D with ⟨g1, g2, g3, g3', g4, g5, g6⟩ | ⟨m, m1, g1, g2, g4, g5⟩
  · rw [if_neg g6]
    have q5 := rq_kf g5
    have e1 : kf w (M_read' d.2 (upd (M_read d.2) (4 * k + 1) d.1)) := q5
    have q6 := rq_rt g5
    have e2 : M_readTin (M_read' d.2 (upd (M_read d.2) (4 * k + 1) d.1)) = M_readTin w := q6
    have e3 : M_read (M_read' d.2 (upd (M_read d.2) (4 * k + 1) d.1)) = upd (M_read w) (4 * k + 1) ((10 : Int32) * (C (F + (3 + 6 * k + 2)) - (48 : Int32)) + (C (F + (3 + 6 * k + 3)) - (48 : Int32))) := by
      show upd (M_read d.2) (4 * k + 1) d.1 = _
      rw [rq_read g5, g2]
    have e4 : M_cells (M_read' d.2 (upd (M_read d.2) (4 * k + 1) d.1)) = C := (rq_c g5).trans ec
    have e5 : M_at (M_read' d.2 (upd (M_read d.2) (4 * k + 1) d.1)) = nI (F + (3 + 6 * k + 4)) := g4
    have e6 : M_readPeople (M_read' d.2 (upd (M_read d.2) (4 * k + 1) d.1)) = nI k := (rq_rp g5).trans er
    generalize M_read' d.2 (upd (M_read d.2) (4 * k + 1) d.1) = y at e1 e2 e3 e4 e5 e6 ⊢
    rcases r119_c M hF hk g1 e4 e5 e6 with ⟨h1, h2, h3, h4⟩ | h1
    · exact Or.inl ⟨h1.tr e1 e2, by rw [h2, e3], g3, g3', h3, h4⟩
    · exact Or.inr (h1.tr e1)
  · rw [if_pos g2]
    have q5 := rq_kf g5
    have e1 : kf w (M_read' d.2 (upd (M_read d.2) (4 * k + 1) d.1)) := q5
    exact Or.inr ⟨rfl, m, ⟨by omega, by omega⟩, g1, g4, e1⟩
/-- what is read of one -/
def pr (C : Nat → Int32) (F : Nat) (R : Nat → Int32) (p : Nat) : Prop := (R (4 * p) = f_X2_kindOf (C (F + (3 + 6 * p + 1))) ∧ R (4 * p + 1) = (10 : Int32) * (C (F + (3 + 6 * p + 2)) - (48 : Int32)) + (C (F + (3 + 6 * p + 3)) - (48 : Int32)) ∧ R (4 * p + 2) = C (F + (3 + 6 * p + 4)) - (48 : Int32) ∧ R (4 * p + 3) = C (F + (3 + 6 * p + 5)) - (48 : Int32)) ∧ (48 ≤ (C (F + (3 + 6 * p + 2))).toInt ∧ (C (F + (3 + 6 * p + 2))).toInt ≤ 51) ∧ (48 ≤ (C (F + (3 + 6 * p + 3))).toInt ∧ (C (F + (3 + 6 * p + 3))).toInt ≤ 57) ∧ (49 ≤ (C (F + (3 + 6 * p + 4))).toInt ∧ (C (F + (3 + 6 * p + 4))).toInt ≤ 57) ∧ (48 ≤ (C (F + (3 + 6 * p + 5))).toInt ∧ (C (F + (3 + 6 * p + 5))).toInt ≤ 49)
theorem rp_80 (M : MS) {x : Int32} (hF : F + n ≤ 240) (hk : k < 6) (hj : Gd C F n (3 + 6 * k + 1)) (hn : 3 + 6 * k + 1 < n) (hg : ¬ bad C F (3 + 6 * k + 1)) (ec : M_cells w = C) (ea : M_at w = nI (F + (3 + 6 * k + 1))) (er : M_readPeople w = nI k) (hx : x = f_X2_kindOf (C (F + (3 + 6 * k + 1)))) :
    (PS C F n k w (fL_X4_readPerson_80 M (nI (F + n)) (nI (4 * k)) 1 (M_read' w (upd (M_read w) (4 * k) x))) ∧ (∀ i, i < 4 * k → M_read (fL_X4_readPerson_80 M (nI (F + n)) (nI (4 * k)) 1 (M_read' w (upd (M_read w) (4 * k) x))).2 i = M_read w i) ∧ pr C F (M_read (fL_X4_readPerson_80 M (nI (F + n)) (nI (4 * k)) 1 (M_read' w (upd (M_read w) (4 * k) x))).2) k) ∨ PF C F n k w (fL_X4_readPerson_80 M (nI (F + n)) (nI (4 * k)) 1 (M_read' w (upd (M_read w) (4 * k) x))) := by
  have hj2 : Gd C F n (3 + 6 * k + 2) := ⟨by omega, fun t ht => by
    by_cases e : t = 3 + 6 * k + 1
    · rw [e]; exact hg
    · exact hj.2 t (by omega)⟩
  have e1 : kf w (M_read' w (upd (M_read w) (4 * k) x)) := rfl
  have e2 : M_readTin (M_read' w (upd (M_read w) (4 * k) x)) = M_readTin w := rfl
  have e3 : M_read (M_read' w (upd (M_read w) (4 * k) x)) = upd (M_read w) (4 * k) x := rfl
  have e4 : M_cells (M_read' w (upd (M_read w) (4 * k) x)) = C := ec
  have e5 : M_at (M_read' w (upd (M_read w) (4 * k) x)) = nI (F + (3 + 6 * k + 1)) := ea
  have e6 : M_readPeople (M_read' w (upd (M_read w) (4 * k) x)) = nI k := er
  generalize M_read' w (upd (M_read w) (4 * k) x) = y at e1 e2 e3 e4 e5 e6 ⊢
  rcases r80_c M hF hk hj2 e4 e5 e6 with ⟨h1, h2, h3⟩ | h1
  · refine Or.inl ⟨h1.tr e1 e2, fun i hi => ?_, ⟨?_, ?_, ?_, ?_⟩, h3⟩
    · rw [h2, e3, pk_un (by omega), pk_un (by omega), pk_un (by omega), pk_un (by omega)]
    · rw [h2, e3, pk_un (by omega), pk_un (by omega), pk_un (by omega), pk_us, hx]
    · rw [h2, pk_un (by omega), pk_un (by omega), pk_us]
    · rw [h2, pk_un (by omega), pk_us]
    · rw [h2, pk_us]
  · exact Or.inr (h1.tr e1)
theorem rp_c (hF : F + n ≤ 240) (hk : k < 6) (hj : Gd C F n (3 + 6 * k + 1)) (ec : M_cells w = C) (ea : M_at w = nI (F + (3 + 6 * k + 1))) (er : M_readPeople w = nI k) :
    (PS C F n k w (f_X4_readPerson w (nI (F + n))) ∧ (∀ i, i < 4 * k → M_read (f_X4_readPerson w (nI (F + n))).2 i = M_read w i) ∧ pr C F (M_read (f_X4_readPerson w (nI (F + n))).2) k) ∨ PF C F n k w (f_X4_readPerson w (nI (F + n))) := by
  have hjn := hj.1
  have hb := go_p hk (r := 1) (by omega) (C (F + (3 + 6 * k + 1)))
  rw [pg_1] at hb
  unfold f_X4_readPerson
  rw [ea, ec, er, n_4m, nI_clamp (by omega), nI_clamp (by omega)]
  by_cases c1 : nI (F + n) ≤ nI (F + (3 + 6 * k + 1))
  · have c' := (nI_leI (by omega) (by omega)).mp c1
    rw [if_pos c1, pk_us, if_pos rfl]
    exact Or.inr ⟨rfl, 3 + 6 * k + 1, ⟨by omega, by omega⟩, ⟨hj.1, hj.2, fun h => absurd h (by omega)⟩, ea, rfl⟩
  · have c' : 3 + 6 * k + 1 < n := by
      rcases Nat.lt_or_ge (3 + 6 * k + 1) n with h | h
      · exact h
      · exact absurd ((nI_leI (by omega) (by omega)).mpr (by omega)) c1
    rw [if_neg c1]
    by_cases d1 : C (F + (3 + 6 * k + 1)) = (111 : Int32)
    · rw [if_pos d1] at hb
      rw [if_pos d1, pk_us, if_neg (by decide)]
      exact rp_80 w hF hk hj c' (fun q => absurd (hb.mp q) (by decide)) ec ea er (by rw [d1]; decide)
    · rw [if_neg d1] at hb
      rw [if_neg d1]
      by_cases d2 : C (F + (3 + 6 * k + 1)) = (115 : Int32)
      · rw [if_pos d2] at hb
        rw [if_pos d2, pk_us, if_neg (by decide)]
        exact rp_80 w hF hk hj c' (fun q => absurd (hb.mp q) (by decide)) ec ea er (by rw [d2]; decide)
      · rw [if_neg d2] at hb
        rw [if_neg d2]
        by_cases d3 : C (F + (3 + 6 * k + 1)) = (99 : Int32)
        · rw [if_pos d3] at hb
          rw [if_pos d3, pk_us, if_neg (by decide)]
          exact rp_80 w hF hk hj c' (fun q => absurd (hb.mp q) (by decide)) ec ea er (by rw [d3]; decide)
        · rw [if_neg d3] at hb
          rw [if_neg d3, pk_us, if_pos rfl]
          exact Or.inr ⟨rfl, 3 + 6 * k + 1, ⟨by omega, by omega⟩, ⟨hj.1, hj.2, fun _ => hb.mpr rfl⟩, ea, rfl⟩
end RP
/-! the whole text -/
def RS (C : Nat → Int32) (F n : Nat) (w : MS) (res : Int32 × MS) : Prop := ∃ K, ¬ res.1 = 0 ∧ n = 3 + 6 * K ∧ (2 ≤ K ∧ K ≤ 6) ∧ Gd C F n n ∧ kf w res.2 ∧ M_readTin res.2 = M_readTin w ∧ M_readPeople res.2 = nI K ∧ ∀ p, p < K → pr C F (M_read res.2) p
def RF (C : Nat → Int32) (F n : Nat) (w : MS) (res : Int32 × MS) : Prop := res.1 = 0 ∧ ∃ m, St C F n m ∧ (m = n → n < 15 ∨ ¬ (n - 3) % 6 = 0) ∧ M_at res.2 = nI (F + m) ∧ kf w res.2
theorem RF.tr {C : Nat → Int32} {F n : Nat} {v w : MS} {res : Int32 × MS} (h : kf v w) (p : RF C F n w res) : RF C F n v res := by
  obtain ⟨p1, m, p2, p3, p4, p5⟩ := p
  exact ⟨p1, m, p2, p3, p4, kf_trans h p5⟩
theorem RS.tr {C : Nat → Int32} {F n : Nat} {v w : MS} {res : Int32 × MS} (h : kf v w) (h2 : M_readTin w = M_readTin v) (p : RS C F n w res) : RS C F n v res := by
  obtain ⟨K, p1, p2, p3, p4, p5, p6, p7⟩ := p
  exact ⟨K, p1, p2, p3, p4, kf_trans h p5, p6.trans h2, p7⟩
theorem i6 : (6 : Int32).toInt = 6 := rfl
theorem rl_c {C : Nat → Int32} {F n : Nat} (M : MS) (hF : F + n ≤ 240) : ∀ (f k : Nat) (w : MS), k ≤ 6 → 6 - k < f → Gd C F n (3 + 6 * k) → M_cells w = C → M_at w = nI (F + (3 + 6 * k)) → M_readPeople w = nI k → (∀ p, p < k → pr C F (M_read w) p) → RS C F n w (fL_X4_readTown_38 M (nI (F + n)) f w) ∨ RF C F n w (fL_X4_readTown_38 M (nI (F + n)) f w) := by
  intro f
  induction f with
  | zero => intro k w _ h; exact absurd h (Nat.not_lt_zero _)
  | succ f ih =>
    intro k w hk hf hj ec ea er hp
    have hjn := hj.1
    have go : k < 6 → (3 + 6 * k = n → k < 2) → ∀ A : Int32 × MS, A = (if (f_X4_isSign w (nI (F + n)) (59 : Int32)).1 = 0 then ((0 : Int32), (f_X4_isSign w (nI (F + n)) (59 : Int32)).2) else (if (f_X4_readPerson ((f_X4_isSign w (nI (F + n)) (59 : Int32)).2) (nI (F + n))).1 = 0 then ((0 : Int32), (f_X4_readPerson ((f_X4_isSign w (nI (F + n)) (59 : Int32)).2) (nI (F + n))).2) else fL_X4_readTown_38 M (nI (F + n)) f ((f_X4_readPerson ((f_X4_isSign w (nI (F + n)) (59 : Int32)).2) (nI (F + n))).2))) → RS C F n w A ∨ RF C F n w A := by
      intro h6 h2 A hA
      rw [hA]
      have D := sg_c (w := w) (x := (59 : Int32)) hF hj ec ea ((go_p h6 (r := 0) (by omega) _).trans (pg_0 _))
      generalize f_X4_isSign w (nI (F + n)) (59 : Int32) = d at D ⊢
      rcases D with ⟨g1, g2, g3, g4⟩ | ⟨g1, g2⟩
      · rw [if_neg (by rw [g2]; decide)]
        have P := rp_c (w := d.2) hF h6 g1 ((rq_c g4).trans ec) g3 ((rq_rp g4).trans er)
        generalize f_X4_readPerson d.2 (nI (F + n)) = z at P ⊢
        rcases P with ⟨⟨s1, s2, s3, s4, s5, s6⟩, s7, s8⟩ | ⟨s1, m, s2, s3, s4, s5⟩
        · rw [if_neg s2]
          have hkf : kf w z.2 := kf_trans (rq_kf g4) s4
          have hrt : M_readTin z.2 = M_readTin w := s5.trans (rq_rt g4)
          rcases ih (k + 1) z.2 (by omega) (by omega) s1 ((kf_cells hkf).trans ec) s3 s6 (fun p hp2 => by
            by_cases e : p = k
            · rw [e]; exact s8
            · have hpk : p < k := by omega
              have h9 := hp p hpk
              unfold pr at h9 ⊢
              rw [s7 (4 * p) (by omega), s7 (4 * p + 1) (by omega), s7 (4 * p + 2) (by omega), s7 (4 * p + 3) (by omega), rq_read g4]
              exact h9) with r | r
          · exact Or.inl (r.tr hkf hrt)
          · exact Or.inr (r.tr hkf)
        · rw [if_pos s1]
          exact Or.inr ⟨rfl, m, s3, fun e => Or.inr (by omega), s4, kf_trans (rq_kf g4) s5⟩
      · rw [g2, if_pos rfl]
        exact Or.inr ⟨rfl, 3 + 6 * k, g1, fun e => Or.inl (by have := h2 e; omega), ea, rfl⟩
    rw [fL_X4_readTown_38, er, ea]
    by_cases c1 : nI k < (2 : Int32)
    · have c1' : k < 2 := by rw [fa_lt, i2, nI_toInt (by omega)] at c1; omega
      rw [if_pos c1]
      exact go (by omega) (fun _ => c1') _ rfl
    · have c1' : 2 ≤ k := by rw [fa_lt, i2, nI_toInt (by omega)] at c1; omega
      rw [if_neg c1]
      by_cases c4 : (6 : Int32) ≤ nI k
      · have c4' : k = 6 := by rw [fa_le, i6, nI_toInt (by omega)] at c4; omega
        rw [if_pos c4]
        by_cases c5 : nI (F + (3 + 6 * k)) = nI (F + n)
        · have c5' := (nI_eq (by omega) (by omega)).mp c5
          have en : n = 3 + 6 * k := by omega
          rw [if_pos c5]
          refine Or.inl ⟨k, by show ¬ (1 : Int32) = 0; decide, en, ⟨c1', hk⟩, ?_, rfl, rfl, er, hp⟩
          rw [← en] at hj; exact hj
        · rw [if_neg c5]
          refine Or.inr ⟨rfl, 3 + 6 * k, ⟨hj.1, hj.2, fun _ => ?_⟩, fun e => absurd (by rw [e]) c5, ea, rfl⟩
          rw [c4']
          exact go_39 _
      · have c4' : k < 6 := by rw [fa_le, i6, nI_toInt (by omega)] at c4; omega
        rw [if_neg c4]
        by_cases c5 : nI (F + n) ≤ nI (F + (3 + 6 * k))
        · have c5' := (nI_leI (by omega) (by omega)).mp c5
          have en : n = 3 + 6 * k := by omega
          rw [if_pos c5, if_pos (by rw [en])]
          refine Or.inl ⟨k, by show ¬ (1 : Int32) = 0; decide, en, ⟨c1', hk⟩, ?_, rfl, rfl, er, hp⟩
          rw [← en] at hj; exact hj
        · rw [if_neg c5]
          exact go c4' (fun e => absurd (nI_le (by omega) (by omega)) c5) _ rfl
theorem rt_c {C : Nat → Int32} {F n : Nat} (w : MS) (hF : F + n ≤ 240) (ec : M_cells w = C) (ea : M_at w = nI F) : (∃ K, ¬ (f_X4_readTown w (nI (F + n))).1 = 0 ∧ n = 3 + 6 * K ∧ (2 ≤ K ∧ K ≤ 6) ∧ Gd C F n n ∧ kf w (f_X4_readTown w (nI (F + n))).2 ∧ (M_readTin (f_X4_readTown w (nI (F + n))).2 = (10 : Int32) * (C (F + 1) - (48 : Int32)) + (C (F + 2) - (48 : Int32)) ∧ (48 ≤ (C (F + 1)).toInt ∧ (C (F + 1)).toInt ≤ 52) ∧ (48 ≤ (C (F + 2)).toInt ∧ (C (F + 2)).toInt ≤ 57)) ∧ M_readPeople (f_X4_readTown w (nI (F + n))).2 = nI K ∧ ∀ p, p < K → pr C F (M_read (f_X4_readTown w (nI (F + n))).2) p) ∨ RF C F n w (f_X4_readTown w (nI (F + n))) := by
  unfold f_X4_readTown
  have h0 : Gd C F n 0 := ⟨Nat.zero_le _, fun t h => absurd h (Nat.not_lt_zero _)⟩
  have D := sg_c (w := M_readPeople' w (0 : Int32)) (x := (116 : Int32)) hF h0 ec ea (go_0 _)
  generalize f_X4_isSign (M_readPeople' w (0 : Int32)) (nI (F + n)) (116 : Int32) = d at D ⊢
  rcases D with ⟨g1, g2, g3, g4⟩ | ⟨g1, g2⟩
  · rw [if_neg (by rw [g2]; decide)]
    have q4 := rq_kf g4
    have hk1 : kf w d.2 := q4
    have E := td_c (w := d.2) (hi := (4 : Int32)) (H := (52 : Int32)) hF g1 ((rq_c g4).trans ec) g3 (by decide) (by decide) (go_1 _) (go_2 _)
    generalize f_X4_twoDigits d.2 (nI (F + n)) (4 : Int32) = z at E ⊢
    rcases E with ⟨k1, k2, k3, k4, k5, k6, k7⟩ | ⟨m, m1, k1, k2, k3, k4⟩
    · rw [if_neg k7]
      have q6 := kf_trans hk1 (rq_kf k6)
      have e1 : kf w (M_readTin' z.2 z.1) := q6
      have e2 : M_readTin (M_readTin' z.2 z.1) = (10 : Int32) * (C (F + 1) - (48 : Int32)) + (C (F + 2) - (48 : Int32)) := k2
      have e3 : M_at (M_readTin' z.2 z.1) = nI (F + (3 + 6 * 0)) := k5
      have e4 : M_readPeople (M_readTin' z.2 z.1) = nI 0 := by
        show M_readPeople z.2 = nI 0
        rw [rq_rp k6, rq_rp g4, nI_0]
      generalize M_readTin' z.2 z.1 = y at e1 e2 e3 e4 ⊢
      rcases rl_c w hF 7 0 y (by omega) (by omega) k1 ((kf_cells e1).trans ec) e3 e4 (fun p h => absurd h (Nat.not_lt_zero _)) with ⟨K, r1, r2, r3, r4, r5, r6, r7⟩ | r
      · exact Or.inl ⟨K, r1, r2, r3, r4, kf_trans e1 r5, ⟨r6.trans e2, k3, k4⟩, r7⟩
      · exact Or.inr (r.tr e1)
    · rw [if_pos k2]
      have q6 := kf_trans hk1 (rq_kf k4)
      have e1 : kf w (M_readTin' z.2 z.1) := q6
      exact Or.inr ⟨rfl, m, k1, fun e => Or.inl (by omega), k3, e1⟩
  · rw [g2, if_pos rfl]
    exact Or.inr ⟨rfl, 0, g1, fun e => Or.inl (by omega), ea, rfl⟩
