theorem Qx.rew {M : ZM} {own : Nat → Nat} {z i qa la pa arr cap j e : Nat} {s : QS} {es : List Nat} {tr : Value} {v now : Int64} (h : Qx M z own i qa s la pa arr es cap tr) (he : es[j]? = some e) : QRep (zset (zset M e (.inr (2, [.long v]))) qa (.inr (1, fQs la pa (rewQ s now j v) tr))) z (ow M own i) i qa (rewQ s now j v) := by
  obtain ⟨h1, h2, h3, ⟨h4, h5, h6⟩, h7, h8, h9, h10, o1, o2, o3, o4⟩ := h
  obtain ⟨⟨mc, hla⟩, hr0, hle, hcz⟩ := id h2
  obtain ⟨x0, y1, y2, y3⟩ := h5 j e he
  have ne : ∀ (q ci : Nat) (fs : List Value), ci ≠ 1 → ci ≠ 2 → M q = some (.inr (ci, fs)) → zset (zset M e (.inr (2, [.long v]))) qa (.inr (1, fQs la pa (rewQ s now j v) tr)) q = M q := fun q ci fs c1 c2 hq => by
    rw [zset_ne (zne hq h1 (fun w => by cases w; exact c1 rfl)), zset_ne (zne hq y2 (fun w => by cases w; exact c2 rfl))]
  have na : ∀ (q : Nat) (p : Nat × List Value), M q = some (.inl p) → zset (zset M e (.inr (2, [.long v]))) qa (.inr (1, fQs la pa (rewQ s now j v) tr)) q = M q := fun q p hq => by
    rw [zset_ne (zne hq h1 (by intro h; cases h)), zset_ne (zne hq y2 (by intro h; cases h))]
  have hlen : (s.2.1.set j v).length = s.2.1.length := List.length_set
  refine ⟨la, pa, arr, es, cap, tr, zset_self _ _ _, h2.kept (ne la _ _ (by decide) (by decide) hla) (na arr _ hr0), h3, ⟨by show es.length = (s.2.1.set j v).length; rw [hlen]; exact h4, ?_, h6⟩, by rw [na pa _ h7]; exact h7, h8, by show s.2.2.1 ≤ (s.2.1.set j v).length; rw [hlen]; exact h9, ?_, by rw [ow_old (by rw [h1]; simp)]; exact o1, by rw [ow_old (by rw [hla]; simp)]; exact o2, by rw [ow_old (by rw [h7]; simp)]; exact o3, fun hh => by rw [ow_old (by rw [hr0]; simp)]; exact o4 hh⟩
  · intro j' e' hj'
    show ∃ x, (s.2.1.set j v)[j']? = some x ∧ _
    obtain ⟨x, e1, e2, e3⟩ := h5 j' e' hj'
    have hne : e' ≠ qa := zne e2 h1 (by simp)
    by_cases hjj : j' = j
    · subst hjj
      rw [he] at hj'
      cases hj'
      refine ⟨v, by rw [List.getElem?_set_self (List.getElem?_eq_some_iff.mp e1).1], by rw [zset_ne hne, zset_self], by rw [ow_old (by rw [e2]; simp)]; exact e3⟩
    · have hee : e' ≠ e := by
        intro hee
        rw [hee] at hj'
        exact hjj ((List.getElem?_inj (List.getElem?_eq_some_iff.mp hj').1 h6).mp (hj'.trans he.symm))
      exact ⟨x, by rw [List.getElem?_set_ne (Ne.symm hjj)]; exact e1, by rw [zset_ne hne, zset_ne hee]; exact e2, by rw [ow_old (by rw [e2]; simp)]; exact e3⟩
  · exact h10.keep (fun ta fs hta => ne ta 4 fs (by decide) (by decide) hta)
/-- trigger -/
def triT (n c : Int32) : Option TS := if n = 0 then none else some (n, c, 1, 0, 0)
def triS (S : MS) (i : Nat) (n c : Int32) : MS := (S.1, va_up S.2.1 i (setTr (S.2.1 i) (triT n c)), S.2.2)
def triI (S : MS) (i : Nat) (n c : Int32) : Int32 × MS :=
  if n < 0 ∨ 4096 < n then (-2, S) else if kTemp (S.2.1 i).1 then (-3, S) else (1, lookN (triS S i n c) 32)
/-- take -/
def takQ (s : QS) : QS := ((if s.2.1.tail = [] then -1 else s.1), s.2.1.tail, s.2.2.1, s.2.2.2.1, s.2.2.2.2.1, s.2.2.2.2.2.1, s.2.2.2.2.2.1 - nI s.2.1.length + 1, s.2.1.headD 0, s.2.2.2.2.2.2.2.2.1.map (fun t => (t.1, t.2.1, t.2.2.1, t.2.2.2.1, 1)), (if s.2.1.tail = [] then List.replicate 8 0 else s.2.2.2.2.2.2.2.2.2))
def takS (S : MS) (i : Nat) : MS := (S.1, va_up S.2.1 i (takQ (S.2.1 i)), S.2.2)
def takI (S : MS) (i : Nat) : Int32 × MS :=
  if kTemp (S.2.1 i).1 then (-3, S) else if (S.2.1 i).2.1 = [] then (-4, S) else if (S.2.1 i).2.1.length = (S.2.1 i).2.2.1 then (-5, S) else ((S.2.1 i).2.2.2.2.2.1 - nI (S.2.1 i).2.1.length + 1, lookN (takS S i) 32)
