/-- an object that a list may hold -/
def zObj (M : ZM) (b : Nat) : Prop := ∃ (ci : Nat) (fs : List Value) (r : vw_C), M b = some (.inr (ci, fs)) ∧ vcl[ci]? = some r ∧ (r.1, "java/lang/Object") ∈ zCa
/-- the list object at a, its array at arr: it holds es; cap places -/
def ALr (M : ZM) (z a arr : Nat) (es : List Nat) (cap : Nat) : Prop := (∃ mc : Int32, M a = some (.inr (6, fAL arr (nI es.length) mc))) ∧ M arr = some (.inl (0, es.map Value.ref ++ List.replicate (cap - es.length) .null)) ∧ es.length ≤ cap ∧ (cap = 0 → arr = z)
theorem al_elems {M : ZM} {es : List Nat} (k : Nat) (h : ∀ e ∈ es, zObj M e) : zElems vcl M (es.map Value.ref ++ List.replicate k .null) := by
  intro v hv
  rcases List.mem_append.mp hv with hv | hv
  · obtain ⟨e, he, rfl⟩ := List.mem_map.mp hv
    obtain ⟨ci, fs, r, h1, h2, h3⟩ := h e he
    exact Or.inr ⟨e, ci, fs, r, rfl, h1, h2, h3⟩
  · exact Or.inl (List.mem_replicate.mp hv).2
theorem al_set (es : List Nat) (b : Nat) {cap k : Nat} (h : es.length ≤ cap) (hk : es.length < cap + k) : ((es.map Value.ref ++ List.replicate (cap - es.length) Value.null) ++ List.replicate k Value.null).set es.length (Value.ref b) = (es ++ [b]).map Value.ref ++ List.replicate (cap + k - (es ++ [b]).length) Value.null := by
  rw [List.append_assoc, List.replicate_append_replicate, List.set_append_right _ _ (by simp)]
  simp only [List.length_map, Nat.sub_self, List.map_append, List.length_append, List.length_singleton, List.append_assoc]
  congr 1
  rw [show cap - es.length + k = (cap + k - (es.length + 1)) + 1 by omega, List.replicate_succ]
  rfl
theorem zset_none {M : ZM} {a q : Nat} {e : ZE} (h : zset M a e q = none) : M q = none := by
  by_cases hq : q = a
  · subst hq
    rw [zset_self] at h
    cases h
  · rwa [zset_ne hq] at h
theorem zObj.set {M : ZM} {a b : Nat} {ci : Nat} {fs fs' : List Value} (h : zObj M b) (ha : M a = some (.inr (ci, fs))) : zObj (zset M a (.inr (ci, fs'))) b := by
  obtain ⟨c, f, r, h1, h2, h3⟩ := h
  by_cases hb : b = a
  · subst hb
    rw [ha] at h1
    cases h1
    exact ⟨ci, fs', r, zset_self _ _ _, h2, h3⟩
  · exact ⟨c, f, r, by rw [zset_ne hb]; exact h1, h2, h3⟩
theorem capA_lt {n cap : Nat} (h : n < cap) : capA n cap = cap := by unfold capA; rw [if_pos h]
theorem al_ne {M : ZM} {a b ci t : Nat} {fs vs : List Value} (ha : M a = some (.inr (ci, fs))) (hb : M b = some (.inl (t, vs))) : a ≠ b := by
  intro h
  rw [h, hb] at ha
  cases ha
theorem zne {M : ZM} {a b : Nat} {e1 e2 : ZE} (h1 : M a = some e1) (h2 : M b = some e2) (h : e1 ≠ e2) : a ≠ b := by
  intro hab
  rw [hab, h2] at h1
  exact h (Option.some.inj h1).symm
