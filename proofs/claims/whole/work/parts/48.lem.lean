theorem al_get {es : List Nat} {j e k : Nat} (h : es[j]? = some e) : (es.map Value.ref ++ List.replicate k Value.null)[j]? = some (.ref e) := by
  rw [List.getElem?_append_left (by simpa using (List.getElem?_eq_some_iff.mp h).1), List.getElem?_map, h]
  rfl
theorem TrR.keep {M M' : ZM} {own : Nat → Nat} {i : Nat} {t : Option TS} {tr : Value} (h : TrR M own i t tr) (hk : ∀ (ta : Nat) (fs : List Value), M ta = some (.inr (4, fs)) → M' ta = M ta) : TrR M' (ow M own i) i t tr := by
  cases t with
  | none => exact h
  | some t =>
    obtain ⟨ta, h1, h2, h3⟩ := h
    exact ⟨ta, h1, by rw [ow_old (by rw [h3]; simp)]; exact h2, by rw [hk ta _ h3]; exact h3⟩
theorem Qx.gen {M M' : ZM} {own : Nat → Nat} {z i qa la pa arr cap : Nat} {s s' : QS} {es : List Nat} {tr tr' : Value} (h : Qx M z own i qa s la pa arr es cap tr) (a b : Nat) (hqa : M' qa = some (.inr (1, fQs la pa s' tr'))) (hl : ALr M' z la arr ((es.drop a).take b) cap) (hv : s'.2.1 = (s.2.1.drop a).take b) (hpa : M' pa = some (.inl (1, s'.2.2.2.2.2.2.2.2.2.map Value.int))) (hp8 : s'.2.2.2.2.2.2.2.2.2.length = 8) (hpe : s'.2.2.1 ≤ s'.2.1.length) (htr : TrR M' (ow M own i) i s'.2.2.2.2.2.2.2.2.1 tr') (fi : ∀ (e : Nat) (x : Int64), M e = some (.inr (2, [.long x])) → M' e = M e) : QRep M' z (ow M own i) i qa s' := by
  obtain ⟨h1, h2, h3, ⟨h4, h5, h6⟩, h7, h8, h9, h10, o1, o2, o3, o4⟩ := h
  obtain ⟨⟨mc, hla⟩, hr0, hle, hcz⟩ := id h2
  refine ⟨la, pa, arr, (es.drop a).take b, cap, tr', hqa, hl, h3, ⟨?_, ?_, ?_⟩, hpa, hp8, hpe, htr, ?_, ?_, ?_, ?_⟩
  · rw [hv]
    simp [h4]
  · intro j e hj
    have hj' := hj
    rw [List.getElem?_take] at hj'
    split at hj'
    · rename_i hjb
      rw [List.getElem?_drop] at hj'
      obtain ⟨x, e1, e2, e3⟩ := h5 (a + j) e hj'
      refine ⟨x, ?_, by rw [fi e x e2]; exact e2, by rw [ow_old (by rw [e2]; simp)]; exact e3⟩
      rw [hv, List.getElem?_take, if_pos hjb, List.getElem?_drop]
      exact e1
    · cases hj'
  · exact (h6.sublist (List.drop_sublist _ _)).sublist (List.take_sublist _ _)
  · rw [ow_old (by rw [h1]; simp)]; exact o1
  · rw [ow_old (by rw [hla]; simp)]; exact o2
  · rw [ow_old (by rw [h7]; simp)]; exact o3
  · intro he
    rw [ow_old (by rw [hr0]; simp)]; exact o4 he
theorem dt_all {α : Type} (l : List α) : (l.drop 0).take l.length = l := by simp
/-- next -/
def nextQ (s : QS) (now : Int64) (j : Nat) (p : Int32) : QS := (s.1, s.2.1, s.2.2.1, s.2.2.2.1, now, s.2.2.2.2.2.1, s.2.2.2.2.2.2.1, s.2.2.2.2.2.2.2.1, s.2.2.2.2.2.2.2.2.1, s.2.2.2.2.2.2.2.2.2.set j p)
abbrev nxP (s : QS) (j : Nat) : Int32 := s.2.2.2.2.2.2.2.2.2.getD j 0 + 1
abbrev nxN (s : QS) (p : Int32) : Prop := p < 1 ∨ nI s.2.1.length < p
def nextI (S : MS) (i j : Nat) : Int32 × MS :=
  if kTrans (S.2.1 i).1 then (-3, S) else if nxN (S.2.1 i) (nxP (S.2.1 i) j) then (-4, S) else (nxP (S.2.1 i) j, (S.1, va_up S.2.1 i (nextQ (S.2.1 i) S.2.2.2.2.2.2 j (nxP (S.2.1 i) j)), S.2.2))
/-- rewrite: item j (from 0) of queue i -/
def rewQ (s : QS) (now : Int64) (j : Nat) (v : Int64) : QS := (s.1, s.2.1.set j v, s.2.2.1, s.2.2.2.1, now, s.2.2.2.2.2)
def rewI (S : MS) (i : Nat) (n : Int32) (v : Int64) : Int32 × MS :=
  if kTrans (S.2.1 i).1 then (-3, S) else if nxN (S.2.1 i) n then (-4, S) else (1, (S.1, va_up S.2.1 i (rewQ (S.2.1 i) S.2.2.2.2.2.2 (n - 1).toNatClampNeg v), S.2.2))
/-- count -/
def cntF (S : MS) (w : Int32) : Int32 :=
  if ¬ (w < 0 ∨ 32 ≤ w) then nI (S.2.1 w.toNatClampNeg).2.1.length else if ¬ w < 32 ∧ ¬ (w - 32 < 0 ∨ 32 ≤ w - 32) then (S.2.1 (w - 32).toNatClampNeg).1
  else if w = 64 then nI (tot S 32) else if w = 65 then nI S.2.2.1.length else if w = 66 then S.2.2.2.1 else if w = 67 then nI S.2.2.2.2.1.length else -2
/-- started -/
def staF (S : MS) (t : Int32) : Int32 := if t < 1 ∨ nI S.2.2.1.length < t then 0 else ((S.2.2.1[(t - 1).toNatClampNeg]?).getD (0, 0)).1
theorem zpos {t : Int32} {n : Nat} (hn : n < 2 ^ 31) (h : ¬ (t < 1 ∨ nI n < t)) : ∃ j : Nat, j < n ∧ t = nI (j + 1) ∧ t - 1 = nI j ∧ (t - 1).toNatClampNeg = j := by
  have h1 : ¬ t < 1 := fun e => h (Or.inl e)
  have h2 : ¬ nI n < t := fun e => h (Or.inr e)
  have h0 : ¬ t < 0 := fun e => h1 (by
    rw [Int32.lt_iff_toInt_lt] at e ⊢
    have : (0 : Int32).toInt = 0 := rfl
    have : (1 : Int32).toInt = 1 := rfl
    omega)
  obtain ⟨m, hm, rfl⟩ := nI_of h0
  have hm1 : 1 ≤ m := by
    rcases Nat.eq_zero_or_pos m with e | e
    · rw [e] at h1
      exact absurd (by decide) h1
    · exact e
  have hmn : m ≤ n := Nat.not_lt.mp fun q => h2 (nI_lt q hm)
  refine ⟨m - 1, by omega, by rw [show m - 1 + 1 = m by omega], ?_, ?_⟩
  · have := nI_pred (m - 1)
    rw [show m - 1 + 1 = m by omega] at this
    exact this
  · have := nI_pred (m - 1)
    rw [show m - 1 + 1 = m by omega] at this
    rw [this, nI_clamp (by omega)]
