theorem mi_r {M : MS} {p : Int32} (h : ¬ f_X4_isPerson M p = 0) : 0 ≤ p.toInt ∧ p.toInt < (M_people M).toInt := by
  unfold f_X4_isPerson at h
  split at h
  · exact absurd rfl h
  · split at h
    · exact absurd rfl h
    · rename_i h1 h2
      rw [fa_lt, show (0 : Int32).toInt = 0 from rfl] at h1
      rw [fa_le] at h2
      omega
theorem mi_in {M : MS} {p : Int32} (hn : (M_people M).toInt ≤ 6) (h : ¬ f_X4_isPerson M p = 0) : vp_in p 6 := by
  have h1 := mi_r h
  exact vp_in_iff.mpr ⟨h1.1, by omega⟩
theorem q_cl {x : Int32} {n : Int} (h : 0 ≤ x.toInt ∧ x.toInt < n) : (x.toNatClampNeg : Int) < n := by
  rw [Int32.toNatClampNeg, Int.toNat_of_nonneg h.1]
  exact h.2
theorem q_in {x : Int32} {n : Int} (hn : n ≤ 6) (h : 0 ≤ x.toInt ∧ x.toInt < n) : vp_in x 6 := vp_in_iff.mpr ⟨h.1, by omega⟩
theorem lp_lt {p n : Int32} (c : ¬ n ≤ p) : p.toInt < n.toInt := by
  rw [fa_le] at c
  omega
theorem wi_r {v a b : Int32} (h : ¬ f_X4_within v a b = 0) : a.toInt ≤ v.toInt ∧ v.toInt ≤ b.toInt := by
  unfold f_X4_within at h
  split at h
  · exact absurd rfl h
  · split at h
    · exact absurd rfl h
    · rename_i h1 h2
      rw [fa_lt] at h1 h2
      omega
theorem sh_r {k : Int32} (h : ¬ f_X4_isSheet k = 0) : 0 ≤ k.toInt ∧ k.toInt ≤ 3 := wi_r h
theorem sh_in {k : Int32} (h : ¬ f_X4_isSheet k = 0) : vp_in k 4 := by
  have h1 := sh_r h
  exact vp_in_iff.mpr ⟨h1.1, by omega⟩
theorem m60 {k : Int32} (h : vp_in k 4) : ((60 : Int32) * k).toInt = 60 * k.toInt := by
  have h1 := vp_in_iff.mp h
  rw [fb_mulI] <;> rw [show (60 : Int32).toInt = 60 from rfl] <;> omega
theorem cell_at {k i : Int32} (h : vp_in k 4) (h0 : 0 ≤ i.toInt) (h1 : i.toInt ≤ 60) : ((60 : Int32) * k + i).toInt = 60 * k.toInt + i.toInt := by
  have h2 := vp_in_iff.mp h
  have h3 := m60 h
  rw [fb_addI (by omega) (by omega), h3]
theorem cell_in {k i : Int32} (h : vp_in k 4) (h0 : 0 ≤ i.toInt) (c : ¬ (60 : Int32) ≤ i) : vp_in ((60 : Int32) * k + i) 240 := by
  have h2 := vp_in_iff.mp h
  rw [fa_le, show (60 : Int32).toInt = 60 from rfl] at c
  have h3 := cell_at h h0 (by omega)
  exact vp_in_iff.mpr ⟨by omega, by omega⟩
theorem put_in {k i n : Int32} (h : vp_in k 4) (hL : 0 ≤ n.toInt ∧ n.toInt ≤ 60) (c : ¬ f_X4_within i (0 : Int32) (n - (1 : Int32)) = 0) : vp_in ((60 : Int32) * k + i) 240 := by
  have h2 := wi_r c
  have h4 : (n - (1 : Int32)).toInt = n.toInt - 1 := fb_subI (by rw [show (1 : Int32).toInt = 1 from rfl]; omega) (by rw [show (1 : Int32).toInt = 1 from rfl]; omega)
  rw [h4, show (0 : Int32).toInt = 0 from rfl] at h2
  refine cell_in h h2.1 ?_
  rw [fa_le, show (60 : Int32).toInt = 60 from rfl]
  omega
theorem sh_cl {k : Int32} (h : vp_in k 4) : k.toNatClampNeg < 4 := by
  have h1 := vp_in_iff.mp h
  rw [Int32.toNatClampNeg]
  omega
/-- a copied cell's place -/
theorem cp_in {k i c : Int32} {n : Int} (h : vp_in k 4) (h0 : 0 ≤ i.toInt) (h1 : i.toInt + n ≤ 60) (h2 : 0 ≤ c.toInt) (h3 : c.toInt < n) : vp_in (((60 : Int32) * k + i) + c) 240 := by
  have h4 := vp_in_iff.mp h
  have h5 := cell_at h h0 (by omega)
  have h6 : (((60 : Int32) * k + i) + c).toInt = 60 * k.toInt + i.toInt + c.toInt := by rw [fb_addI (by omega) (by omega), h5]
  exact vp_in_iff.mpr ⟨by omega, by omega⟩
theorem cp_rev {n q : Int32} (h : 0 ≤ n.toInt ∧ n.toInt ≤ 60) (h0 : 0 ≤ q.toInt) (c : ¬ n ≤ q) : 0 ≤ ((n - (1 : Int32)) - q).toInt ∧ ((n - (1 : Int32)) - q).toInt < n.toInt := by
  rw [fa_le] at c
  have h4 : (n - (1 : Int32)).toInt = n.toInt - 1 := fb_subI (by rw [show (1 : Int32).toInt = 1 from rfl]; omega) (by rw [show (1 : Int32).toInt = 1 from rfl]; omega)
  have h5 : ((n - (1 : Int32)) - q).toInt = n.toInt - 1 - q.toInt := by rw [fb_subI (by omega) (by omega), h4]
  omega
/-- what the tests of copy give -/
theorem cp_len {n l i : Int32} (hL : 0 ≤ l.toInt ∧ l.toInt ≤ 60) (ci : ¬ i < 0) (cl : ¬ l < i) (c : n ≤ l - i) : 0 ≤ i.toInt ∧ i.toInt + n.toInt ≤ 60 := by
  rw [fa_lt, show (0 : Int32).toInt = 0 from rfl] at ci
  rw [fa_lt] at cl
  rw [fa_le, fb_subI (by omega) (by omega)] at c
  omega
theorem cp_nn {n l i : Int32} (hL : 0 ≤ l.toInt ∧ l.toInt ≤ 60) (ci : ¬ i < 0) (cl : ¬ l < i) (cn : ¬ n < 0) (c : n ≤ l - i) : 0 ≤ n.toInt ∧ n.toInt ≤ 60 := by
  have h := cp_len hL ci cl c
  rw [fa_lt, show (0 : Int32).toInt = 0 from rfl] at cn
  omega
theorem rdg_in {x : Int32} (h : 0 ≤ x.toInt ∧ x.toInt ≤ 8) (c : ¬ x = (8 : Int32)) : vp_in x 8 := by
  rw [fa_eq, show (8 : Int32).toInt = 8 from rfl] at c
  exact vp_in_iff.mpr ⟨h.1, by omega⟩
theorem rd_nz2 {x : Int32} (c : ¬ f_X4_within x (1 : Int32) (9 : Int32) = 0) : ¬ x + (1 : Int32) = 0 := by
  have h := wi_r c
  rw [show (1 : Int32).toInt = 1 from rfl, show (9 : Int32).toInt = 9 from rfl] at h
  refine rd_nz ?_ ?_
  · rw [fa_lt, show (1 : Int32).toInt = 1 from rfl]; omega
  · rw [fa_lt, show (9 : Int32).toInt = 9 from rfl]; omega
/-! going round: how far from q on to p -/
def cd (q p n : Int32) : Nat := (if q.toInt ≤ p.toInt then p.toInt - q.toInt else n.toInt - q.toInt + p.toInt).toNat
theorem cd_lt {q p n : Int32} (hn : n.toInt ≤ 6) (hq : 0 ≤ q.toInt ∧ q.toInt < n.toInt) (hp : 0 ≤ p.toInt ∧ p.toInt < n.toInt) : cd q p n < 6 := by
  unfold cd
  split <;> omega
theorem q_s {q n : Int32} (hq : 0 ≤ q.toInt ∧ q.toInt < n.toInt) : (q + (1 : Int32)).toInt = q.toInt + 1 := by
  have h1 := fb_rng n
  rw [fb_addI] <;> rw [show (1 : Int32).toInt = 1 from rfl] <;> omega
theorem q_n0 {q n : Int32} (hq : 0 ≤ q.toInt ∧ q.toInt < n.toInt) : 0 ≤ (0 : Int32).toInt ∧ (0 : Int32).toInt < n.toInt := by
  rw [show (0 : Int32).toInt = 0 from rfl]
  omega
theorem q_n1 {q n : Int32} (hq : 0 ≤ q.toInt ∧ q.toInt < n.toInt) (c : ¬ q + (1 : Int32) = n) : 0 ≤ (q + (1 : Int32)).toInt ∧ (q + (1 : Int32)).toInt < n.toInt := by
  rw [fa_eq, q_s hq] at c
  rw [q_s hq]
  omega
theorem cd_0 {q p n : Int32} (hq : 0 ≤ q.toInt ∧ q.toInt < n.toInt) (hp : 0 ≤ p.toInt ∧ p.toInt < n.toInt) (c : q + (1 : Int32) = n) (hne : ¬ q = p) : cd (0 : Int32) p n + 1 = cd q p n := by
  rw [fa_eq] at hne c
  rw [q_s hq] at c
  unfold cd
  rw [show (0 : Int32).toInt = 0 from rfl]
  split <;> split <;> omega
theorem cd_1 {q p n : Int32} (hq : 0 ≤ q.toInt ∧ q.toInt < n.toInt) (hp : 0 ≤ p.toInt ∧ p.toInt < n.toInt) (c : ¬ q + (1 : Int32) = n) (hne : ¬ q = p) : cd (q + (1 : Int32)) p n + 1 = cd q p n := by
  rw [fa_eq] at hne c
  rw [q_s hq] at c
  unfold cd
  rw [q_s hq]
  split <;> split <;> omega
theorem so_mu {a b k : Nat} (h : a + 1 = b) (hk : b < k + 1) : a < k := by omega
theorem dl_a {x r a b k : Nat} (h : a + 1 = b) (hk : x * r + b < k + 1) : x * r + a < k := by omega
theorem dl_b {x : Int32} {a b k : Nat} (c : ¬ x ≤ 0) (ha : a < 6) (hk : x.toInt.toNat * 6 + b < k + 1) : (x + (-1 : Int32)).toInt.toNat * 6 + a < k := by
  rw [fa_le, show (0 : Int32).toInt = 0 from rfl] at c
  have h1 := fb_rng x
  have h2 : (x + (-1 : Int32)).toInt = x.toInt - 1 := by
    rw [fb_addI] <;> rw [show (-1 : Int32).toInt = -1 from rfl] <;> omega
  rw [h2]
  omega
theorem dl_ne {s q r : Int32} (h0 : f_X4_isOf s q = 0) (hr : ¬ f_X4_isOf s r = 0) : ¬ q = r := fun e => hr (e ▸ h0)
/-! sets of people -/
def so (s n : Int32) : Prop := (0 ≤ n.toInt ∧ n.toInt ≤ 6) ∧ 0 ≤ s.toInt ∧ s.toInt < 2 ^ n.toInt.toNat
theorem i_nI {x : Int32} (h : 0 ≤ x.toInt) : x = nI x.toInt.toNat := by
  obtain ⟨j, hj, rfl⟩ := nI_of (x := x) (by rw [fa_lt, show (0 : Int32).toInt = 0 from rfl]; omega)
  rw [nI_toInt hj, Int.toNat_natCast]
/-- a set's numbers -/
theorem so_nI {s n : Int32} (h : so s n) : ∃ a b : Nat, b ≤ 6 ∧ a < 2 ^ b ∧ s = nI a ∧ n = nI b := by
  obtain ⟨⟨h1, h2⟩, h3, h4⟩ := h
  refine ⟨s.toInt.toNat, n.toInt.toNat, by omega, ?_, i_nI h3, i_nI h1⟩
  have h5 : (s.toInt.toNat : Int) < ((2 ^ n.toInt.toNat : Nat) : Int) := by
    rw [Int.toNat_of_nonneg h3]
    simpa using h4
  exact Int.ofNat_lt.mp h5
theorem t_sz : ∀ a : Fin 64, a.val ≠ 0 → ¬ f_X4_size (nI a.val) = 0 := by decide +kernel
theorem pw6 {a b : Nat} (hb : b ≤ 6) (h : a < 2 ^ b) : a < 64 := Nat.lt_of_lt_of_le h (by have := Nat.pow_le_pow_right (show 0 < 2 by decide) hb; simpa using this)
theorem so_sz {s n : Int32} (h : so s n) (c : ¬ s = 0) : ¬ f_X4_size s = 0 := by
  obtain ⟨a, b, hb, ha, rfl, rfl⟩ := so_nI h
  exact t_sz ⟨a, pw6 hb ha⟩ (fun e => c (by rw [show a = 0 from e]; rfl))
theorem t_hex : ∀ (b : Fin 7) (a : Fin 64) (j : Fin 6), a.val < 2 ^ b.val → j.val < b.val → ¬ (nI a.val &&& (((1 : Int32) <<< (nI j.val &&& 31)) ^^^ (-1 : Int32))) = 0 → ∃ r : Fin 6, r.val < b.val ∧ ¬ f_X4_isOf (nI a.val &&& (((1 : Int32) <<< (nI j.val &&& 31)) ^^^ (-1 : Int32))) (nI r.val) = 0 := by decide +kernel
theorem so_hex {s n p : Int32} (h : so s n) (hp : 0 ≤ p.toInt ∧ p.toInt < n.toInt) (c : ¬ (s &&& (((1 : Int32) <<< (p &&& 31)) ^^^ (-1 : Int32))) = 0) : ∃ r0 : Int32, (0 ≤ r0.toInt ∧ r0.toInt < n.toInt) ∧ ¬ f_X4_isOf (s &&& (((1 : Int32) <<< (p &&& 31)) ^^^ (-1 : Int32))) r0 = 0 := by
  obtain ⟨a, b, hb, ha, rfl, rfl⟩ := so_nI h
  have e := i_nI hp.1
  have hb2 : (nI b).toInt = b := nI_toInt (by omega)
  rw [hb2] at hp ⊢
  rw [e] at c ⊢
  obtain ⟨r, h1, h2⟩ := t_hex ⟨b, by omega⟩ ⟨a, pw6 hb ha⟩ ⟨p.toInt.toNat, by omega⟩ ha (show p.toInt.toNat < b by omega) c
  have hr : (nI r.val).toInt = r.val := nI_toInt (by omega)
  exact ⟨nI r.val, ⟨by omega, by rw [hr]; exact Int.ofNat_lt.mpr h1⟩, h2⟩
