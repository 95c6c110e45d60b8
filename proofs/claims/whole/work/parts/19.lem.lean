theorem nI_max {x y : Nat} (hx : x < 2 ^ 31) (hy : y < 2 ^ 31) : (if nI x < nI y then nI y else nI x) = nI (max x y) := by
  by_cases h : x < y
  · rw [if_pos (nI_lt h hy), Nat.max_eq_right (by omega)]
  · rw [if_neg (nI_nlt (by omega) hx), Nat.max_eq_left (by omega)]
theorem nI_min {x y : Nat} (hx : x < 2 ^ 31) (hy : y < 2 ^ 31) : (if nI y < nI x then nI y else nI x) = nI (min x y) := by
  by_cases h : y < x
  · rw [if_pos (nI_lt h hx), Nat.min_eq_right (by omega)]
  · rw [if_neg (nI_nlt (by omega) hy), Nat.min_eq_left (by omega)]
theorem nI_gt0 {n : Nat} (h0 : 0 < n) (h : n < 2 ^ 31) : (0 : Int32) < nI n := by
  have := nI_lt h0 h
  rwa [nI_0] at this
theorem nI_half {n : Nat} (h : n < 2 ^ 31) : nI n >>> ((1 : Int32) &&& 31) = nI (n / 2) := by
  have k := pk_shrN (n := n) h ((1 : Int32) &&& 31) 1 (by decide)
  rw [Nat.pow_one] at k
  exact k
theorem zElems.fresh {cl : List vw_C} {M : ZM} {vs : List Value} {q : Nat} {e : ZE} (h : zElems cl M vs) (hq : M q = none) : zElems cl (zset M q e) vs := by
  intro v hv
  rcases h v hv with h | ⟨b, ci, fs, r, h1, h2, h3⟩
  · exact Or.inl h
  · refine Or.inr ⟨b, ci, fs, r, h1, ?_, h3⟩
    rw [zset_ne]
    · exact h2
    · intro hbq
      rw [hbq, hq] at h2
      cases h2
theorem zfresh_ne {M : ZM} {a q : Nat} {e : ZE} (ha : M a = some e) (hq : M q = none) : a ≠ q := by
  intro h
  rw [h, hq] at ha
  cases ha
theorem zcopy_grow (vs : List Value) {m : Nat} (h : vs.length ≤ m) : zcopy vs (List.replicate m .null) 0 0 vs.length = vs ++ List.replicate (m - vs.length) .null := by
  apply List.ext_getElem
  · simp [zcopy]
    omega
  · intro i h1 h2
    simp [zcopy] at h1
    simp only [zcopy, List.getElem_map, List.getElem_range]
    by_cases hi : i < vs.length
    · rw [if_pos ⟨Nat.zero_le _, by omega⟩, List.getElem_append_left hi]
      simp [hi]
    · rw [if_neg (by omega), List.getElem_append_right (by omega)]
      simp [h1]
/-- how many places a list's array has behind an add -/
def capA (n cap : Nat) : Nat := if n < cap then cap else if cap = 0 then 10 else cap + max 1 (cap / 2)
theorem capA_gt {n cap : Nat} (h : n ≤ cap) : n < capA n cap := by
  unfold capA
  split
  · omega
  · split <;> omega
theorem capA_ge {n cap : Nat} (h : n ≤ cap) : cap ≤ capA n cap := by
  unfold capA
  split
  · omega
  · split <;> omega
