theorem zset_id {M : ZM} {a : Nat} {e : ZE} (h : M a = some e) : zset M a e = M := by
  funext q
  unfold zset
  split
  · rename_i hq
    rw [hq, h]
  · rfl
theorem zcopy_get (vs0 vs1 : List Value) (sp dp n j : Nat) (hj : j < vs1.length) : (zcopy vs0 vs1 sp dp n)[j]? = some (if dp ≤ j ∧ j < dp + n then vs0.getD (sp + (j - dp)) .null else vs1.getD j .null) := by
  unfold zcopy
  rw [List.getElem?_map, List.getElem?_range hj]
  rfl
theorem al_at (es : List Nat) (k j : Nat) : (es.map Value.ref ++ List.replicate k Value.null).getD j .null = if h : j < es.length then Value.ref es[j] else .null := by
  rw [List.getD_eq_getElem?_getD]
  by_cases h : j < es.length
  · rw [List.getElem?_append_left (by simpa using h), dif_pos h]
    simp [h]
  · rw [List.getElem?_append_right (by simpa using h), dif_neg h]
    simp only [List.length_map, List.getElem?_replicate]
    split <;> rfl
theorem al_ext {vs : List Value} {es : List Nat} {k : Nat} (hl : vs.length = es.length + k) (h : ∀ j, j < vs.length → vs[j]? = some (if h : j < es.length then Value.ref es[j] else .null)) : vs = es.map Value.ref ++ List.replicate k Value.null := by
  apply List.ext_getElem?
  intro j
  by_cases hj : j < vs.length
  · rw [h j hj]
    by_cases h2 : j < es.length
    · rw [dif_pos h2, List.getElem?_append_left (by simpa using h2)]
      simp [h2]
    · rw [dif_neg h2, List.getElem?_append_right (by simpa using h2)]
      simp only [List.length_map, List.getElem?_replicate]
      rw [if_pos (by omega)]
  · rw [List.getElem?_eq_none (by omega), List.getElem?_eq_none (by simp; omega)]
theorem al_ins (es : List Nat) (b i k : Nat) (hi : i ≤ es.length) : (zcopy (es.map Value.ref ++ List.replicate (k + 1) Value.null) (es.map Value.ref ++ List.replicate (k + 1) Value.null) i (i + 1) (es.length - i)).set i (Value.ref b) = (es.take i ++ b :: es.drop i).map Value.ref ++ List.replicate k Value.null := by
  have hlen : (es.take i ++ b :: es.drop i).length = es.length + 1 := by simp; omega
  refine al_ext (by rw [hlen]; simp [zcopy]; omega) (fun j hj => ?_)
  have hj' : j < es.length + (k + 1) := by simpa [zcopy] using hj
  by_cases hji : j = i
  · subst hji
    rw [List.getElem?_set_self (by simp [zcopy]; omega), dif_pos (by omega)]
    congr 2
    rw [List.getElem_append_right (by simp; omega)]
    simp [Nat.min_eq_left hi]
  · rw [List.getElem?_set_ne (Ne.symm hji), zcopy_get _ _ _ _ _ _ (by simpa using hj')]
    congr 1
    by_cases h1 : i + 1 ≤ j ∧ j < i + 1 + (es.length - i)
    · rw [if_pos h1, al_at, dif_pos (by omega), dif_pos (by omega)]
      congr 1
      rw [List.getElem_append_right (by simp; omega)]
      simp only [List.length_take, Nat.min_eq_left hi]
      rw [List.getElem_cons]
      rw [dif_neg (by omega), List.getElem_drop]
      congr 1
      all_goals omega
    · rw [if_neg h1, al_at]
      by_cases h2 : j < i
      · rw [dif_pos (by omega), dif_pos (by omega)]
        congr 1
        rw [List.getElem_append_left (by simp; omega), List.getElem_take]
      · rw [dif_neg (by omega), dif_neg (by omega)]
theorem al_rem (es : List Nat) (i k : Nat) (hi : i < es.length) : (zcopy (es.map Value.ref ++ List.replicate k Value.null) (es.map Value.ref ++ List.replicate k Value.null) (i + 1) i (es.length - 1 - i)).set (es.length - 1) Value.null = (es.eraseIdx i).map Value.ref ++ List.replicate (k + 1) Value.null := by
  have hlen : (es.eraseIdx i).length = es.length - 1 := by rw [List.length_eraseIdx, if_pos hi]
  refine al_ext (by rw [hlen]; simp [zcopy]; omega) (fun j hj => ?_)
  have hj' : j < es.length + k := by simpa [zcopy] using hj
  by_cases hjn : j = es.length - 1
  · subst hjn
    rw [List.getElem?_set_self (by simp [zcopy]; omega), dif_neg (by omega)]
  · rw [List.getElem?_set_ne (Ne.symm hjn), zcopy_get _ _ _ _ _ _ (by simpa using hj')]
    congr 1
    by_cases h1 : i ≤ j ∧ j < i + (es.length - 1 - i)
    · rw [if_pos h1, al_at, dif_pos (by omega), dif_pos (by omega)]
      congr 1
      rw [List.getElem_eraseIdx_of_ge (by omega) (by omega)]
      congr 1
      omega
    · rw [if_neg h1, al_at]
      by_cases h2 : j < i
      · rw [dif_pos (by omega), dif_pos (by omega)]
        congr 1
        rw [List.getElem_eraseIdx_of_lt (by omega) h2]
      · rw [dif_neg (by omega), dif_neg (by omega)]
theorem al_copy0 (vs : List Value) (sp dp : Nat) : zcopy vs vs sp dp 0 = vs := by
  apply List.ext_getElem?
  intro j
  by_cases hj : j < vs.length
  · rw [zcopy_get _ _ _ _ _ _ hj, if_neg (by omega)]
    simp [hj]
  · rw [List.getElem?_eq_none (by rw [zcopy_len]; omega), List.getElem?_eq_none (by omega)]
theorem al_wipe (vs : List Value) (v : Value) (j : Nat) (hj : j < vs.length) : (List.replicate j v ++ vs.drop j).set j v = List.replicate (j + 1) v ++ vs.drop (j + 1) := by
  rw [List.set_append_right _ _ (by simp)]
  simp only [List.length_replicate, Nat.sub_self]
  rw [List.drop_eq_getElem_cons hj, List.set_cons_zero, List.replicate_succ', List.append_assoc]
  rfl
