theorem kq_setL {a b a' : va_W} (n : Nat) (is : List Nat) (ha : a.length = n) (ha' : a'.length = n) (his : is = List.range n) (hn : va_nd is = true) : kq_set (a ++ b) is a' = a' ++ b := by
  apply List.ext_getElem?
  intro i
  by_cases hi : i < n
  · rw [List.getElem?_append_left (by omega)]
    refine kq_set_in is a' (a ++ b) hn (by rw [his, List.length_range, ha']) (fun k hk => by rw [his, List.mem_range] at hk; rw [List.length_append]; omega) i i ?_
    rw [his, List.getElem?_range hi]
  · rw [kq_set_out is a' (a ++ b) i (by rw [his, List.mem_range]; exact hi), List.getElem?_append_right (by omega), List.getElem?_append_right (by omega), ha, ha']
theorem kq_setR {a b b' : va_W} (n k : Nat) (is : List Nat) (ha : a.length = n) (hb : b.length = k) (hb' : b'.length = k) (his : is = (List.range k).map (fun i => n + i)) (hn : va_nd is = true) : kq_set (a ++ b) is b' = a ++ b' := by
  apply List.ext_getElem?
  intro i
  by_cases hi : n ≤ i ∧ i < n + k
  · rw [List.getElem?_append_right (by omega), ha]
    refine kq_set_in is b' (a ++ b) hn (by rw [his, List.length_map, List.length_range, hb']) (fun q hq => by rw [his, List.mem_map] at hq; obtain ⟨z, hz, rfl⟩ := hq; rw [List.mem_range] at hz; rw [List.length_append]; omega) (i - n) i ?_
    rw [his, List.getElem?_map, List.getElem?_range (by omega)]
    show some (n + (i - n)) = some i
    congr 1
    omega
  · have ho : i ∉ is := by
      rw [his, List.mem_map]
      rintro ⟨z, hz, rfl⟩
      rw [List.mem_range] at hz
      omega
    rw [kq_set_out is b' (a ++ b) i ho]
    by_cases h2 : i < n
    · rw [List.getElem?_append_left (by omega), List.getElem?_append_left (by omega)]
    · rw [List.getElem?_append_right (by omega), List.getElem?_append_right (by omega), List.getElem?_eq_none (by omega), List.getElem?_eq_none (by omega)]
theorem wXM_subX {ad bd : Nat → Nat} {cI cO : ClassId} {x : XS} {y : MS} : [0, 1, 2, 3, 4, 5, 6, 7, 8, 9, 10, 11, 12, 13, 14, 15, 16, 17, 18, 19, 20, 21].map (fun i => (wX ad cI cO x ++ wM bd cI y)[i]?) = (wX ad cI cO x).map some := rfl
theorem wXM_subM {ad bd : Nat → Nat} {cI cO : ClassId} {x : XS} {y : MS} : [22, 23, 24, 25, 26, 27, 28, 29, 30, 31, 32, 33, 34].map (fun i => (wX ad cI cO x ++ wM bd cI y)[i]?) = (wM bd cI y).map some := rfl
theorem wXM_setX {ad bd : Nat → Nat} {cI cO : ClassId} {x : XS} {y : MS} (z : XS) : kq_set (wX ad cI cO x ++ wM bd cI y) [0, 1, 2, 3, 4, 5, 6, 7, 8, 9, 10, 11, 12, 13, 14, 15, 16, 17, 18, 19, 20, 21] (wX ad cI cO z) = wX ad cI cO z ++ wM bd cI y := kq_setL 22 _ rfl rfl (by decide) (by decide)
theorem wXM_setM {ad bd : Nat → Nat} {cI cO : ClassId} {x : XS} {y : MS} (z : MS) : kq_set (wX ad cI cO x ++ wM bd cI y) [22, 23, 24, 25, 26, 27, 28, 29, 30, 31, 32, 33, 34] (wM bd cI z) = wX ad cI cO x ++ wM bd cI z := kq_setR 22 13 _ rfl rfl rfl (by decide) (by decide)
theorem sc_in {x : Int32} {L : Nat} (k : Int32) (n : Nat) (h0 : 0 ≤ x.toInt) (h1 : x.toInt + 6 ≤ L) (hL : L ≤ 3072) (hk : k.toInt = n) (hn : n < 6) : vp_in (x + k) L := by
  have h2 : (x + k).toInt = x.toInt + n := by rw [fb_addI (by omega) (by omega), hk]
  exact vp_in_iff.mpr ⟨by omega, by omega⟩
theorem lg_eq {a b : Int64} (h : a = b) : lg_cmp a b = 0 := by
  subst h
  unfold lg_cmp
  rw [if_neg (by rw [gt_iff_lt, fa_lt64]; omega), if_pos rfl]
