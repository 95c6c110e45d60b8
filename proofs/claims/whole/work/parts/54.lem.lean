theorem zset_dom {M : ZM} {a y : Nat} {e : ZE} (h : M y ≠ none) : zset M a e y ≠ none := fun q => h (zset_none q)
/-- tasks, delays and the object's own numbers change; the queues stay -/
theorem MRep.updTD {M M' : ZM} {own own' : Nat → Nat} {z x qarr lt lw cap cap' : Nat} {qs : List Nat} {S S' : MS} (hm : MRep M z own x qarr lt lw qs S cap) (ho : ∀ y, M y ≠ none → own' y = own y) (hz0 : M z ≠ none) (hx : M' x = some (.inr (0, fM qarr lt lw S'))) (hS : S'.2.1 = S.2.1) (hT : TaR M' z own' lt S'.2.2.1 cap') (hD : DeR M' z own' lw S'.2.2.2.2.1) (fr : ∀ y, M y ≠ none → y ≠ x → own y ≠ 32 → own y ≠ 33 → M' y = M y) : MRep M' z own' x qarr lt lw qs S' cap' := by
  obtain ⟨⟨m1, m2, m3, m4, m5⟩, hqs, -, -, hz⟩ := hm
  have hxq : x ≠ qarr := zne m1 m2 (by intro h; cases h)
  have hmz : M' z = M z := fr z hz0 (fun e => by rw [e, m4] at hz; omega) (by omega) (by omega)
  refine ⟨⟨hx, by rw [fr qarr (by rw [m2]; simp) (Ne.symm hxq) (by omega) (by omega)]; exact m2, m3, by rw [ho x (by rw [m1]; simp)]; exact m4, by rw [ho qarr (by rw [m2]; simp)]; exact m5⟩, fun j qb hj => ?_, hT, hD, by rw [ho z hz0]; exact hz⟩
  rw [hS]
  have hj32 : j < 32 := by rw [← m3]; exact (List.getElem?_eq_some_iff.mp hj).1
  exact (hqs j qb hj).fr (fun y hy hyo => ⟨fr y hy (fun e => by rw [e, m4] at hyo; omega) (by omega) (by omega), by rw [ho y hy]; exact hyo⟩) hmz
/-- a task's cell changes -/
theorem TaR.set {M : ZM} {own : Nat → Nat} {z lt cap j e : Nat} {ts : List (Int32 × Int32)} {es : List Nat} {arr : Nat} {w : Int32 × Int32} (hl : ALr M z lt arr es cap) (h4 : es.length = ts.length) (h5 : ∀ (j e : Nat), es[j]? = some e → ∃ x : Int32 × Int32, ts[j]? = some x ∧ M e = some (.inr (3, [.int x.1, .int x.2])) ∧ own e = 32) (h6 : es.Nodup) (o1 : own lt = 32) (o2 : arr ≠ z → own arr = 32) (he : es[j]? = some e) : TaR (zset M e (.inr (3, [.int w.1, .int w.2]))) z own lt (ts.set j w) cap := by
  obtain ⟨⟨mc, hla⟩, hr, -⟩ := id hl
  obtain ⟨x0, y1, y2, y3⟩ := h5 j e he
  refine ⟨arr, es, hl.kept (zset_ne (zne hla y2 (by simp))) (zset_ne (zne hr y2 (by intro h; cases h))), by rw [List.length_set]; exact h4, ?_, h6, o1, o2⟩
  intro j' e' hj'
  obtain ⟨x, e1, e2, e3⟩ := h5 j' e' hj'
  by_cases hjj : j' = j
  · subst hjj
    rw [he] at hj'
    cases hj'
    exact ⟨w, by rw [List.getElem?_set_self (List.getElem?_eq_some_iff.mp e1).1], by rw [zset_self], e3⟩
  · have hee : e' ≠ e := by
      intro hee
      rw [hee] at hj'
      exact hjj ((List.getElem?_inj (List.getElem?_eq_some_iff.mp hj').1 h6).mp (hj'.trans he.symm))
    exact ⟨x, by rw [List.getElem?_set_ne (Ne.symm hjj)]; exact e1, by rw [zset_ne hee]; exact e2, e3⟩
/-- end: the first trigger whose task ended -/
abbrev agC (S : MS) (i : Nat) (t : TS) : Prop := t.2.2.2.2 = 0 ∧ 0 < (S.2.1 i).2.1.length - (S.2.1 i).2.2.1
def agT (S : MS) (i : Nat) (t : TS) : Int32 × MS :=
  if agC S i t then (nI (S.2.2.1.length + 1), addT S (va_up S.2.1 i (setTr (S.2.1 i) (some (t.1, t.2.1, t.2.2.1, nI (S.2.2.1.length + 1), 0)))) (some t.2.1))
  else (0, (S.1, va_up S.2.1 i (setTr (S.2.1 i) (some (t.1, t.2.1, t.2.2.1, 0, t.2.2.2.2))), S.2.2))
def agN (S : MS) (e : Int32) : Nat → Int32 × MS
  | 0 => (0, S)
  | d + 1 => match (S.2.1 (31 - d)).2.2.2.2.2.2.2.2.1 with
    | none => agN S e d
    | some t => if t.2.2.2.1 = e then agT S (31 - d) t else agN S e d
def endS (S : MS) (j : Nat) : MS := (S.1, S.2.1, S.2.2.1.set j (((S.2.2.1[j]?).getD (0, 0)).1, 0), S.2.2.2.1 - 1, S.2.2.2.2)
def endI (S : MS) (t : Int32) : Int32 × MS :=
  if t < 1 ∨ nI S.2.2.1.length < t then (-4, S) else if ((S.2.2.1[(t - 1).toNatClampNeg]?).getD (0, 0)).2 = 0 then (-4, S)
  else ((agN (endS S (t - 1).toNatClampNeg) t 32).1, lookN (agN (endS S (t - 1).toNatClampNeg) t 32).2 32)
