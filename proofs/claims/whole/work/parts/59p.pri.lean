/-! the text of a town: where it goes on, on both sides -/
def bad (C : Nat → Int32) (F t : Nat) : Prop := f_X3_goesOn (nI t) (C (F + t)) = 0
def Gd (C : Nat → Int32) (F n m : Nat) : Prop := m ≤ n ∧ ∀ t, t < m → ¬ bad C F t
def St (C : Nat → Int32) (F n m : Nat) : Prop := m ≤ n ∧ (∀ t, t < m → ¬ bad C F t) ∧ (m < n → bad C F m)
theorem go_0 (x : Int32) : f_X3_goesOn (nI 0) x = 0 ↔ ¬ x = (116 : Int32) := by
  unfold f_X3_goesOn
  rw [if_pos (by decide)]
  by_cases c : x = (116 : Int32)
  · rw [if_pos c]; exact ⟨fun h => absurd h (by decide), fun h => absurd c h⟩
  · rw [if_neg c]; exact ⟨fun _ => c, fun _ => rfl⟩
theorem go_1 (x : Int32) : f_X3_goesOn (nI 1) x = 0 ↔ f_X4_within x (48 : Int32) (52 : Int32) = 0 := by
  unfold f_X3_goesOn
  rw [if_neg (by decide), if_pos (by decide)]
  exact Iff.rfl
theorem go_2 (x : Int32) : f_X3_goesOn (nI 2) x = 0 ↔ f_X4_within x (48 : Int32) (57 : Int32) = 0 := by
  unfold f_X3_goesOn
  rw [if_neg (by decide), if_neg (by decide), if_pos (by decide)]
  exact Iff.rfl
theorem go_39 (x : Int32) : f_X3_goesOn (nI 39) x = 0 := by
  unfold f_X3_goesOn
  rw [if_neg (by decide), if_neg (by decide), if_neg (by decide), if_pos (by decide)]
theorem t_go : ∀ k r : Fin 6, ¬ nI (3 + 6 * k.val + r.val) = 0 ∧ ¬ nI (3 + 6 * k.val + r.val) = 1 ∧ ¬ nI (3 + 6 * k.val + r.val) = 2 ∧ ¬ (39 : Int32) ≤ nI (3 + 6 * k.val + r.val) ∧ (nI (3 + 6 * k.val + r.val) - (3 : Int32)) - (nI (3 + 6 * k.val + r.val) - (3 : Int32)) / (6 : Int32) * (6 : Int32) = nI r.val := by decide +kernel
theorem go_p {k r : Nat} (hk : k < 6) (hr : r < 6) (x : Int32) : f_X3_goesOn (nI (3 + 6 * k + r)) x = 0 ↔ f_X3_personGoesOn (nI r) x = 0 := by
  have h := t_go ⟨k, hk⟩ ⟨r, hr⟩
  have h1 : ¬ nI (3 + 6 * k + r) = 0 := h.1
  have h2 : ¬ nI (3 + 6 * k + r) = 1 := h.2.1
  have h3 : ¬ nI (3 + 6 * k + r) = 2 := h.2.2.1
  have h4 : ¬ (39 : Int32) ≤ nI (3 + 6 * k + r) := h.2.2.2.1
  have h5 : (nI (3 + 6 * k + r) - (3 : Int32)) - (nI (3 + 6 * k + r) - (3 : Int32)) / (6 : Int32) * (6 : Int32) = nI r := h.2.2.2.2
  unfold f_X3_goesOn
  rw [if_neg h1, if_neg h2, if_neg h3, if_neg h4, h5]
  by_cases c : f_X3_personGoesOn (nI r) x = 0
  · rw [if_pos c]; exact ⟨fun _ => c, fun _ => rfl⟩
  · rw [if_neg c]; exact ⟨fun h => absurd h (by decide), fun h => absurd h c⟩
theorem pg_0 (x : Int32) : f_X3_personGoesOn (nI 0) x = 0 ↔ ¬ x = (59 : Int32) := by
  unfold f_X3_personGoesOn
  rw [if_pos (by decide)]
  by_cases c : x = (59 : Int32)
  · rw [if_pos c]; exact ⟨fun h => absurd h (by decide), fun h => absurd c h⟩
  · rw [if_neg c]; exact ⟨fun _ => c, fun _ => rfl⟩
theorem pg_1 (x : Int32) : f_X3_personGoesOn (nI 1) x = (if x = (111 : Int32) then (1 : Int32) else (if x = (115 : Int32) then (1 : Int32) else (if x = (99 : Int32) then (1 : Int32) else (0 : Int32)))) := by
  unfold f_X3_personGoesOn
  rw [if_neg (by decide), if_pos (by decide)]
theorem pg_2 (x : Int32) : f_X3_personGoesOn (nI 2) x = 0 ↔ f_X4_within x (48 : Int32) (51 : Int32) = 0 := by
  unfold f_X3_personGoesOn
  rw [if_neg (by decide), if_neg (by decide), if_pos (by decide)]
  exact Iff.rfl
theorem pg_3 (x : Int32) : f_X3_personGoesOn (nI 3) x = 0 ↔ f_X4_within x (48 : Int32) (57 : Int32) = 0 := by
  unfold f_X3_personGoesOn
  rw [if_neg (by decide), if_neg (by decide), if_neg (by decide), if_pos (by decide)]
  exact Iff.rfl
theorem pg_4 (x : Int32) : f_X3_personGoesOn (nI 4) x = 0 ↔ f_X4_within x (49 : Int32) (57 : Int32) = 0 := by
  unfold f_X3_personGoesOn
  rw [if_neg (by decide), if_neg (by decide), if_neg (by decide), if_neg (by decide), if_pos (by decide)]
  exact Iff.rfl
theorem pg_5 (x : Int32) : f_X3_personGoesOn (nI 5) x = 0 ↔ f_X4_within x (48 : Int32) (49 : Int32) = 0 := by
  unfold f_X3_personGoesOn
  rw [if_neg (by decide), if_neg (by decide), if_neg (by decide), if_neg (by decide), if_neg (by decide)]
  exact Iff.rfl
/-- the class's first fault -/
theorem ff_L {S : SH} {C : Nat → Int32} {I F n : Nat} (hI : I + n ≤ 60) (hc : ∀ m : Nat, m < n → S_cells S (I + m) = C (F + m)) : ∀ (k j m : Nat), j ≤ m → m ≤ n → m - j ≤ k → (∀ t, j ≤ t → t < m → ¬ bad C F t) → fL_X3_firstFaultOf_2 S (nI I) (nI n) k (nI j) = fL_X3_firstFaultOf_2 S (nI I) (nI n) (k - (m - j)) (nI m) := by
  intro k
  induction k with
  | zero => intro j m h1 h2 h3 _; rw [show j = m by omega]; rw [Nat.sub_self]
  | succ k ih =>
    intro j m h1 h2 h3 hg
    by_cases e : j = m
    · rw [e, Nat.sub_self, Nat.sub_zero]
    · have hb := hg j (Nat.le_refl _) (by omega)
      unfold bad at hb
      rw [fL_X3_firstFaultOf_2, if_neg (nI_ge (by omega) (by omega)), nI_add, at_n _ (by omega), hc j (by omega), if_neg hb, nI_1, ih (j + 1) m (by omega) h2 (by omega) (fun t a b => hg t (by omega) b)]
      rw [show k - (m - (j + 1)) = k + 1 - (m - j) by omega]
theorem ff_1 {S : SH} {C : Nat → Int32} {I F n m : Nat} (hI : I + n ≤ 60) (hc : ∀ m : Nat, m < n → S_cells S (I + m) = C (F + m)) (hm : m ≤ n) (hg : ∀ t, t < m → ¬ bad C F t) : ∃ k, f_X3_firstFaultOf S (nI I) (nI n) = fL_X3_firstFaultOf_2 S (nI I) (nI n) (k + 1) (nI m) := by
  have h := ff_L hI hc (n + 1) 0 m (by omega) hm (by omega) (fun t _ b => hg t b)
  refine ⟨n - m, ?_⟩
  unfold f_X3_firstFaultOf
  rw [nI_toInt (by omega), Int.toNat_natCast, ← nI_0, h, show n + 1 - (m - 0) = n - m + 1 by omega]
theorem i15 : (15 : Int32).toInt = 15 := rfl
theorem n_m3 {n : Nat} (h : 3 ≤ n) : nI n - (3 : Int32) = nI (n - 3) := by
  obtain ⟨j, rfl⟩ : ∃ j, n = j + 3 := ⟨n - 3, by omega⟩
  rw [Nat.add_sub_cancel]
  have e : nI (j + 3) = nI j + (3 : Int32) := (nI_add j 3).symm
  rw [e]
  exact Int32.add_sub_cancel _ _
theorem n_r6 {n : Nat} (h : 3 ≤ n) (h2 : n ≤ 60) : (nI n - (3 : Int32)) - (nI n - (3 : Int32)) / (6 : Int32) * (6 : Int32) = nI ((n - 3) % 6) := by
  rw [n_m3 h]
  exact pk_rem (d := 6) (by omega) (by omega) (by omega)
theorem ff_stop {S : SH} {C : Nat → Int32} {I F n m : Nat} (hI : I + n ≤ 60) (hc : ∀ m : Nat, m < n → S_cells S (I + m) = C (F + m)) (h : St C F n m) (h2 : m = n → n < 15 ∨ ¬ (n - 3) % 6 = 0) : f_X3_firstFaultOf S (nI I) (nI n) = nI m := by
  obtain ⟨k, e⟩ := ff_1 hI hc h.1 h.2.1
  rw [e, fL_X3_firstFaultOf_2]
  have hm := h.1
  rcases Nat.lt_or_ge m n with d | d
  · have hb := h.2.2 d
    unfold bad at hb
    rw [if_neg (nI_ge d (by omega)), nI_add, at_n _ (by omega), hc m d, if_pos hb]
  · have e2 : m = n := by omega
    rw [if_pos (nI_le (by omega) (by omega)), e2]
    rcases h2 e2 with g | g
    · rw [if_pos (by rw [fa_lt, i15, nI_toInt (by omega)]; omega)]
    · by_cases c : nI n < (15 : Int32)
      · rw [if_pos c]
      · rw [fa_lt, i15, nI_toInt (by omega)] at c
        rw [if_neg (by rw [fa_lt, i15, nI_toInt (by omega)]; exact c), n_r6 (by omega) (by omega), if_neg (nz_I (by omega) g)]
theorem ff_whole {S : SH} {C : Nat → Int32} {I F n K : Nat} (hI : I + n ≤ 60) (hc : ∀ m : Nat, m < n → S_cells S (I + m) = C (F + m)) (h : Gd C F n n) (hK : n = 3 + 6 * K) (h2 : 2 ≤ K) : f_X3_firstFaultOf S (nI I) (nI n) = (-9 : Int32) := by
  obtain ⟨k, e⟩ := ff_1 hI hc h.1 h.2
  rw [e, fL_X3_firstFaultOf_2, if_pos (nI_le (Nat.le_refl _) (by omega)), if_neg (by rw [fa_lt, i15, nI_toInt (by omega)]; omega), n_r6 (by omega) (by omega), show (n - 3) % 6 = 0 by omega, if_pos nI_0]
/-! the reference's reading -/
def rq (w : MS) := (kfv w, M_read w, M_readPeople w, M_readTin w)
theorem rq_kf {w v : MS} (h : rq w = rq v) : kf v w := by
  show kfv w = kfv v
  exact congrArg (fun t => t.1) h
theorem rq_read {w v : MS} (h : rq w = rq v) : M_read w = M_read v := congrArg (fun t => t.2.1) h
theorem rq_rp {w v : MS} (h : rq w = rq v) : M_readPeople w = M_readPeople v := congrArg (fun t => t.2.2.1) h
theorem rq_rt {w v : MS} (h : rq w = rq v) : M_readTin w = M_readTin v := congrArg (fun t => t.2.2.2) h
theorem rq_c {w v : MS} (h : rq w = rq v) : M_cells w = M_cells v := kf_cells (rq_kf h)
theorem kf_refl (M : MS) : kf M M := rfl
theorem kf_trans {a b c : MS} (h : kf a b) (h2 : kf b c) : kf a c := Eq.trans h2 h
theorem i48 : (48 : Int32).toInt = 48 := rfl
theorem n9i : (-9 : Int32).toInt = -9 := by decide
theorem s48 {x : Int32} (h : 48 ≤ x.toInt ∧ x.toInt ≤ 57) : (x - (48 : Int32)).toInt = x.toInt - 48 := by
  rw [fb_subI] <;> rw [i48] <;> omega
theorem dg_c {C : Nat → Int32} {F n j : Nat} {w : MS} {lo hi L H : Int32} (hF : F + n ≤ 240) (hj : Gd C F n j) (ec : M_cells w = C) (ea : M_at w = nI (F + j)) (eL : (48 : Int32) + lo = L) (eH : (48 : Int32) + hi = H) (hL : 48 ≤ L.toInt) (hH : H.toInt ≤ 57) (hb : f_X3_goesOn (nI j) (C (F + j)) = 0 ↔ f_X4_within (C (F + j)) L H = 0) :
    (Gd C F n (j + 1) ∧ (f_X4_digit w (nI (F + n)) lo hi).1 = C (F + j) - (48 : Int32) ∧ (L.toInt ≤ (C (F + j)).toInt ∧ (C (F + j)).toInt ≤ H.toInt) ∧ M_at (f_X4_digit w (nI (F + n)) lo hi).2 = nI (F + (j + 1)) ∧ rq (f_X4_digit w (nI (F + n)) lo hi).2 = rq w ∧ ¬ (f_X4_digit w (nI (F + n)) lo hi).1 = (-9 : Int32)) ∨ (St C F n j ∧ f_X4_digit w (nI (F + n)) lo hi = ((-9 : Int32), w)) := by
  have hjn := hj.1
  unfold f_X4_digit
  rw [ea, ec, eL, eH, nI_1, nI_pred, nI_clamp (by omega)]
  by_cases c1 : nI (F + n) ≤ nI (F + j)
  · have c' := (nI_leI (by omega) (by omega)).mp c1
    rw [if_pos c1]
    exact Or.inr ⟨⟨hj.1, hj.2, fun h => absurd h (by omega)⟩, rfl⟩
  · have c' : j < n := by
      rcases Nat.lt_or_ge j n with h | h
      · exact h
      · exact absurd ((nI_leI (by omega) (by omega)).mpr (by omega)) c1
    rw [if_neg c1]
    by_cases c2 : f_X4_within (C (F + j)) L H = 0
    · rw [if_pos c2]
      exact Or.inr ⟨⟨hj.1, hj.2, fun _ => hb.mpr c2⟩, rfl⟩
    · rw [if_neg c2]
      have hr := wi_r c2
      refine Or.inl ⟨⟨by omega, fun t ht => ?_⟩, rfl, hr, rfl, rfl, ?_⟩
      · by_cases e : t = j
        · rw [e]; exact fun q => c2 (hb.mp q)
        · exact hj.2 t (by omega)
      · show ¬ C (F + j) - (48 : Int32) = (-9 : Int32)
        intro e
        rw [fa_eq, s48 ⟨by omega, by omega⟩, n9i] at e
        omega
theorem sg_c {C : Nat → Int32} {F n j : Nat} {w : MS} {x : Int32} (hF : F + n ≤ 240) (hj : Gd C F n j) (ec : M_cells w = C) (ea : M_at w = nI (F + j)) (hb : f_X3_goesOn (nI j) (C (F + j)) = 0 ↔ ¬ C (F + j) = x) :
    (Gd C F n (j + 1) ∧ (f_X4_isSign w (nI (F + n)) x).1 = (1 : Int32) ∧ M_at (f_X4_isSign w (nI (F + n)) x).2 = nI (F + (j + 1)) ∧ rq (f_X4_isSign w (nI (F + n)) x).2 = rq w) ∨ (St C F n j ∧ f_X4_isSign w (nI (F + n)) x = ((0 : Int32), w)) := by
  have hjn := hj.1
  unfold f_X4_isSign
  rw [ea, ec, nI_1, nI_clamp (by omega)]
  by_cases c1 : nI (F + n) ≤ nI (F + j)
  · have c' := (nI_leI (by omega) (by omega)).mp c1
    rw [if_pos c1]
    exact Or.inr ⟨⟨hj.1, hj.2, fun h => absurd h (by omega)⟩, rfl⟩
  · have c' : j < n := by
      rcases Nat.lt_or_ge j n with h | h
      · exact h
      · exact absurd ((nI_leI (by omega) (by omega)).mpr (by omega)) c1
    rw [if_neg c1]
    by_cases c2 : C (F + j) = x
    · rw [if_pos c2]
      refine Or.inl ⟨⟨by omega, fun t ht => ?_⟩, rfl, rfl, rfl⟩
      by_cases e : t = j
      · rw [e]; exact fun q => hb.mp q c2
      · exact hj.2 t (by omega)
    · rw [if_neg c2]
      exact Or.inr ⟨⟨hj.1, hj.2, fun _ => hb.mpr c2⟩, rfl⟩
theorem two_v {a b : Int32} (ha : 48 ≤ a.toInt ∧ a.toInt ≤ 57) (hb : 48 ≤ b.toInt ∧ b.toInt ≤ 57) : ((10 : Int32) * (a - (48 : Int32)) + (b - (48 : Int32))).toInt = 10 * (a.toInt - 48) + (b.toInt - 48) := by
  have e1 := s48 ha
  have e2 := s48 hb
  have e3 : ((10 : Int32) * (a - (48 : Int32))).toInt = 10 * (a.toInt - 48) := by
    rw [fb_mulI] <;> rw [show (10 : Int32).toInt = 10 from rfl, e1] <;> omega
  rw [fb_addI] <;> rw [e3, e2] <;> omega
theorem td_c {C : Nat → Int32} {F n j : Nat} {w : MS} {hi H : Int32} (hF : F + n ≤ 240) (hj : Gd C F n j) (ec : M_cells w = C) (ea : M_at w = nI (F + j)) (eH : (48 : Int32) + hi = H) (hH : H.toInt ≤ 57) (hb : f_X3_goesOn (nI j) (C (F + j)) = 0 ↔ f_X4_within (C (F + j)) (48 : Int32) H = 0) (hb2 : f_X3_goesOn (nI (j + 1)) (C (F + (j + 1))) = 0 ↔ f_X4_within (C (F + (j + 1))) (48 : Int32) (57 : Int32) = 0) :
    (Gd C F n (j + 2) ∧ (f_X4_twoDigits w (nI (F + n)) hi).1 = (10 : Int32) * (C (F + j) - (48 : Int32)) + (C (F + (j + 1)) - (48 : Int32)) ∧ (48 ≤ (C (F + j)).toInt ∧ (C (F + j)).toInt ≤ H.toInt) ∧ (48 ≤ (C (F + (j + 1))).toInt ∧ (C (F + (j + 1))).toInt ≤ 57) ∧ M_at (f_X4_twoDigits w (nI (F + n)) hi).2 = nI (F + (j + 2)) ∧ rq (f_X4_twoDigits w (nI (F + n)) hi).2 = rq w ∧ ¬ (f_X4_twoDigits w (nI (F + n)) hi).1 = (-9 : Int32)) ∨ (∃ m, (m = j ∨ m = j + 1) ∧ St C F n m ∧ (f_X4_twoDigits w (nI (F + n)) hi).1 = (-9 : Int32) ∧ M_at (f_X4_twoDigits w (nI (F + n)) hi).2 = nI (F + m) ∧ rq (f_X4_twoDigits w (nI (F + n)) hi).2 = rq w) := by
  have D := dg_c (w := w) (lo := (0 : Int32)) (hi := hi) (L := (48 : Int32)) (H := H) hF hj ec ea (by decide) eH (by decide) hH hb
  unfold f_X4_twoDigits
  generalize f_X4_digit w (nI (F + n)) (0 : Int32) hi = d at D ⊢
  rcases D with ⟨g1, g2, g3, g4, g5, g6⟩ | ⟨g1, g2⟩
  · rw [if_neg g6]
    have E := dg_c (w := d.2) (lo := (0 : Int32)) (hi := (9 : Int32)) (L := (48 : Int32)) (H := (57 : Int32)) hF g1 (by rw [rq_c g5]; exact ec) g4 (by decide) (by decide) (by decide) (by decide) hb2
    generalize f_X4_digit d.2 (nI (F + n)) (0 : Int32) (9 : Int32) = d2 at E ⊢
    rcases E with ⟨k1, k2, k3, k4, k5, k6⟩ | ⟨k1, k2⟩
    · rw [if_neg k6]
      have k3' : 48 ≤ (C (F + (j + 1))).toInt ∧ (C (F + (j + 1))).toInt ≤ 57 := k3
      have g3' : 48 ≤ (C (F + j)).toInt ∧ (C (F + j)).toInt ≤ H.toInt := g3
      refine Or.inl ⟨k1, ?_, g3', k3', k4, Eq.trans k5 g5, ?_⟩
      · show (10 : Int32) * d.1 + d2.1 = _
        rw [g2, k2]
      · show ¬ (10 : Int32) * d.1 + d2.1 = (-9 : Int32)
        rw [g2, k2, fa_eq, two_v ⟨g3'.1, by omega⟩ k3', n9i]
        omega
    · rw [k2, if_pos rfl]
      exact Or.inr ⟨j + 1, Or.inr rfl, k1, rfl, g4, g5⟩
  · rw [g2, if_pos rfl]
    exact Or.inr ⟨j, Or.inl rfl, g1, rfl, ea, rfl⟩
