theorem ALr.zk2 {M M' : ZM} {z a arr cap : Nat} {es es' : List Nat} (h : ALr M z a arr es cap) (h' : ALr M' z a arr es' cap) (hz : M z = some (.inl (0, []))) (e : arr = z) : M' arr = M arr := by
  obtain ⟨⟨mc, ha⟩, hr, hle, -⟩ := h
  obtain ⟨-, hr', hle', -⟩ := h'
  rw [← e, hr] at hz
  have hl := congrArg (fun o : Option ZE => match o with | some (.inl p) => p.2.length | _ => 0) hz
  simp only [List.length_append, List.length_map, List.length_replicate, List.length_nil] at hl
  have hc : cap = 0 := by omega
  have he : es' = [] := List.length_eq_zero_iff.mp (by omega)
  have he0 : es = [] := List.length_eq_zero_iff.mp (by omega)
  rw [hr', hr, he, he0]
/-- unit: a queue's pending items stand (c not 0) or vanish -/
def uniQ (s : QS) (c : Int32) : QS := ((if c = 0 ∧ s.2.1.length = s.2.2.1 then -1 else s.1), (if c = 0 then s.2.1.take (s.2.1.length - s.2.2.1) else s.2.1), 0, s.2.2.2.1, s.2.2.2.2.1, (if c = 0 ∧ kTrans s.1 then s.2.2.2.2.2.1 - nI s.2.2.1 else s.2.2.2.2.2.1), s.2.2.2.2.2.2.1, s.2.2.2.2.2.2.2.1, s.2.2.2.2.2.2.2.2.1, (if c = 0 ∧ s.2.1.length = s.2.2.1 then List.replicate 8 0 else s.2.2.2.2.2.2.2.2.2))
abbrev uniC (s : QS) (u : Int32) : Prop := ¬ s.2.2.1 = 0 ∧ s.2.2.2.1 = u
def uniP (S : MS) (u c : Int32) (i : Nat) : Nat × MS := if uniC (S.2.1 i) u then ((S.2.1 i).2.2.1, (S.1, va_up S.2.1 i (uniQ (S.2.1 i) c), S.2.2)) else (0, S)
def uniN (S : MS) (u c : Int32) (n : Nat) : Nat × MS := match n with
  | 0 => (0, S)
  | n + 1 => ((uniN S u c n).1 + (uniP (uniN S u c n).2 u c n).1, (uniP (uniN S u c n).2 u c n).2)
termination_by n
def uniI (S : MS) (u c : Int32) : Int32 × MS :=
  if u ≤ 0 ∨ 9 < u then (-2, S) else (nI (uniN S u c 32).1, lookN (uniN S u c 32).2 32)
/-- age -/
def ageQ (s : QS) : QS := (-1, [], s.2.2.1, s.2.2.2.1, s.2.2.2.2.1, s.2.2.2.2.2.1, s.2.2.2.2.2.2.1, s.2.2.2.2.2.2.2.1, s.2.2.2.2.2.2.2.2.1, List.replicate 8 0)
abbrev ageC (s : QS) (b : Int64) : Prop := kTemp s.1 ∧ s.2.2.1 = 0 ∧ s.2.2.2.2.1 < b
def ageP (S : MS) (b : Int64) (i : Nat) : Nat × MS := if ageC (S.2.1 i) b then (1, (S.1, va_up S.2.1 i (ageQ (S.2.1 i)), S.2.2)) else (0, S)
def ageN (S : MS) (b : Int64) (n : Nat) : Nat × MS := match n with
  | 0 => (0, S)
  | n + 1 => ((ageN S b n).1 + (ageP (ageN S b n).2 b n).1, (ageP (ageN S b n).2 b n).2)
termination_by n
def ageI (S : MS) (b : Int64) : Int32 × MS := (nI (ageN S b 32).1, (ageN S b 32).2)
theorem uniN_zero (S : MS) (u c : Int32) : uniN S u c 0 = (0, S) := by rw [uniN]
theorem uniN_succ (S : MS) (u c : Int32) (n : Nat) : uniN S u c (n + 1) = ((uniN S u c n).1 + (uniP (uniN S u c n).2 u c n).1, (uniP (uniN S u c n).2 u c n).2) := by rw [uniN]
theorem ageN_zero (S : MS) (b : Int64) : ageN S b 0 = (0, S) := by rw [ageN]
theorem ageN_succ (S : MS) (b : Int64) (n : Nat) : ageN S b (n + 1) = ((ageN S b n).1 + (ageP (ageN S b n).2 b n).1, (ageP (ageN S b n).2 b n).2) := by rw [ageN]
