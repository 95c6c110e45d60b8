/-! WHAT A STATE OF THE SYSTEM IS. A trigger: needed, code, ready, task, takenSince. A queue: kind, values, pending, holder, lastUse, lastNumber, takenNumber, takenValue, trigger, places. -/
abbrev TS : Type := Int32 × Int32 × Int32 × Int32 × Int32
abbrev QS : Type := Int32 × List Int64 × Nat × Int32 × Int64 × Int32 × Int32 × Int64 × Option TS × List Int32
abbrev DS : Type := Int32 × Int32 × Int64
/-- room, queues, tasks (code, goes), tasksGoing, delays (number, code, until), lastDelay, now -/
abbrev MS : Type := Int32 × (Nat → QS) × List (Int32 × Int32) × Int32 × List DS × Int32 × Int64
abbrev fT (t : TS) : List Value := [.int t.1, .int t.2.1, .int t.2.2.1, .int t.2.2.2.1, .int t.2.2.2.2]
abbrev fQs (la pa : Nat) (s : QS) (tr : Value) : List Value := fQ la pa s.1 (nI s.2.2.1) s.2.2.2.1 s.2.2.2.2.1 s.2.2.2.2.2.1 s.2.2.2.2.2.2.1 s.2.2.2.2.2.2.2.1 tr
abbrev fM (qarr lt lw : Nat) (S : MS) : List Value := [.int S.1, .ref qarr, .ref lt, .ref lw, .int S.2.2.2.1, .int S.2.2.2.2.2.1, .long S.2.2.2.2.2.2]
/-- the owner of an address: a queue by its place, 32 the tasks, 33 the delays, 34 the object itself -/
def ow (M : ZM) (own : Nat → Nat) (k : Nat) : Nat → Nat := fun y => match M y with
  | none => k
  | some _ => own y
theorem ow_old {M : ZM} {own : Nat → Nat} {k y : Nat} (h : M y ≠ none) : ow M own k y = own y := by
  unfold ow
  cases hy : M y with
  | none => exact absurd hy h
  | some e => rfl
theorem ow_new {M : ZM} {own : Nat → Nat} {k y : Nat} (h : M y = none) : ow M own k y = k := by
  unfold ow
  rw [h]
def TrR (M : ZM) (own : Nat → Nat) (i : Nat) (t : Option TS) (tr : Value) : Prop := match t with
  | none => tr = .null
  | some t => ∃ ta : Nat, tr = .ref ta ∧ own ta = i ∧ M ta = some (.inr (4, fT t))
def ItR (M : ZM) (own : Nat → Nat) (i : Nat) (es : List Nat) (vals : List Int64) : Prop := es.length = vals.length ∧ (∀ (j e : Nat), es[j]? = some e → ∃ x : Int64, vals[j]? = some x ∧ M e = some (.inr (2, [.long x])) ∧ own e = i) ∧ es.Nodup
def Qx (M : ZM) (z : Nat) (own : Nat → Nat) (i qa : Nat) (s : QS) (la pa arr : Nat) (es : List Nat) (cap : Nat) (tr : Value) : Prop := M qa = some (.inr (1, fQs la pa s tr)) ∧ ALr M z la arr es cap ∧ cap ≤ 1000 ∧ ItR M own i es s.2.1 ∧ M pa = some (.inl (1, s.2.2.2.2.2.2.2.2.2.map Value.int)) ∧ s.2.2.2.2.2.2.2.2.2.length = 8 ∧ s.2.2.1 ≤ s.2.1.length ∧ TrR M own i s.2.2.2.2.2.2.2.2.1 tr ∧ own qa = i ∧ own la = i ∧ own pa = i ∧ (arr ≠ z → own arr = i)
def QRep (M : ZM) (z : Nat) (own : Nat → Nat) (i qa : Nat) (s : QS) : Prop :=
  ∃ (la pa arr : Nat) (es : List Nat) (cap : Nat) (tr : Value), Qx M z own i qa s la pa arr es cap tr
def TaR (M : ZM) (z : Nat) (own : Nat → Nat) (lt : Nat) (ts : List (Int32 × Int32)) (cap : Nat) : Prop :=
  ∃ (arr : Nat) (es : List Nat), ALr M z lt arr es cap ∧ es.length = ts.length ∧ (∀ (j e : Nat), es[j]? = some e → ∃ x : Int32 × Int32, ts[j]? = some x ∧ M e = some (.inr (3, [.int x.1, .int x.2])) ∧ own e = 32) ∧ es.Nodup ∧ own lt = 32 ∧ (arr ≠ z → own arr = 32)
def DeR (M : ZM) (z : Nat) (own : Nat → Nat) (lw : Nat) (ds : List DS) : Prop :=
  ∃ (arr : Nat) (es : List Nat) (cap : Nat), ALr M z lw arr es cap ∧ cap ≤ 1000 ∧ es.length = ds.length ∧ (∀ (j e : Nat), es[j]? = some e → ∃ x : DS, ds[j]? = some x ∧ M e = some (.inr (5, [.int x.1, .int x.2.1, .long x.2.2])) ∧ own e = 33) ∧ own lw = 33 ∧ (arr ≠ z → own arr = 33)
def MaR (M : ZM) (own : Nat → Nat) (x qarr lt lw : Nat) (qs : List Nat) (S : MS) : Prop := M x = some (.inr (0, fM qarr lt lw S)) ∧ M qarr = some (.inl (4, qs.map Value.ref)) ∧ qs.length = 32 ∧ own x = 34 ∧ own qarr = 34
def MRep (M : ZM) (z : Nat) (own : Nat → Nat) (x qarr lt lw : Nat) (qs : List Nat) (S : MS) (cap : Nat) : Prop :=
  MaR M own x qarr lt lw qs S ∧ (∀ (i qa : Nat), qs[i]? = some qa → QRep M z own i qa (S.2.1 i)) ∧ TaR M z own lt S.2.2.1 cap ∧ DeR M z own lw S.2.2.2.2.1 ∧ own z = 99
/-- a state of the object at x -/
def MR (M : ZM) (z x : Nat) (S : MS) (cap : Nat) : Prop := ∃ (own : Nat → Nat) (qarr lt lw : Nat) (qs : List Nat), MRep M z own x qarr lt lw qs S cap
/-- what belongs to k stays -/
def Kp (M : ZM) (own : Nat → Nat) (k : Nat) (M' : ZM) (own' : Nat → Nat) : Prop := ∀ y : Nat, M y ≠ none → own y = k → M' y = M y ∧ own' y = k
theorem ALr.fr {M M' : ZM} {own own' : Nat → Nat} {z a arr cap k : Nat} {es : List Nat} (h : ALr M z a arr es cap) (hk : Kp M own k M' own') (hz : M' z = M z) (ha : own a = k) (hr : arr ≠ z → own arr = k) : ALr M' z a arr es cap := by
  obtain ⟨⟨mc, h1⟩, h2, h3⟩ := h
  refine ALr.kept ⟨⟨mc, h1⟩, h2, h3⟩ (hk a (by rw [h1]; simp) ha).1 ?_
  by_cases he : arr = z
  · rw [he]; exact hz
  · exact (hk arr (by rw [h2]; simp) (hr he)).1
theorem arr_fr {M M' : ZM} {own own' : Nat → Nat} {z a arr cap k : Nat} {es : List Nat} (h : ALr M z a arr es cap) (hk : Kp M own k M' own') (hr : arr ≠ z → own arr = k) : arr ≠ z → own' arr = k := fun he => (hk arr (by rw [h.2.1]; simp) (hr he)).2
theorem QRep.fr {M M' : ZM} {own own' : Nat → Nat} {z i qa : Nat} {s : QS} (h : QRep M z own i qa s) (hk : Kp M own i M' own') (hz : M' z = M z) : QRep M' z own' i qa s := by
  obtain ⟨la, pa, arr, es, cap, tr, h1, h2, h3, ⟨h4, h5, h6⟩, h7, h8, h9, h10, o1, o2, o3, o4⟩ := h
  obtain ⟨⟨mc, hla⟩, hr, -⟩ := id h2
  refine ⟨la, pa, arr, es, cap, tr, ?_, h2.fr hk hz o2 o4, h3, ⟨h4, fun j e hj => ?_, h6⟩, ?_, h8, h9, ?_, (hk qa (by rw [h1]; simp) o1).2, (hk la (by rw [hla]; simp) o2).2, (hk pa (by rw [h7]; simp) o3).2, arr_fr h2 hk o4⟩
  · rw [(hk qa (by rw [h1]; simp) o1).1]; exact h1
  · obtain ⟨x, e1, e2, e3⟩ := h5 j e hj
    obtain ⟨k1, k2⟩ := hk e (by rw [e2]; simp) e3
    exact ⟨x, e1, by rw [k1]; exact e2, k2⟩
  · rw [(hk pa (by rw [h7]; simp) o3).1]; exact h7
  · unfold TrR at h10 ⊢
    split
    · rename_i ht
      rw [ht] at h10
      exact h10
    · rename_i t ht
      rw [ht] at h10
      obtain ⟨ta, e1, e2, e3⟩ := h10
      obtain ⟨k1, k2⟩ := hk ta (by rw [e3]; simp) e2
      exact ⟨ta, e1, k2, by rw [k1]; exact e3⟩
theorem TaR.fr {M M' : ZM} {own own' : Nat → Nat} {z lt cap : Nat} {ts : List (Int32 × Int32)} (h : TaR M z own lt ts cap) (hk : Kp M own 32 M' own') (hz : M' z = M z) : TaR M' z own' lt ts cap := by
  obtain ⟨arr, es, h2, h4, h5, h6, o2, o4⟩ := h
  obtain ⟨⟨mc, hla⟩, hr, -⟩ := id h2
  refine ⟨arr, es, h2.fr hk hz o2 o4, h4, fun j e hj => ?_, h6, (hk lt (by rw [hla]; simp) o2).2, arr_fr h2 hk o4⟩
  obtain ⟨x, e1, e2, e3⟩ := h5 j e hj
  obtain ⟨k1, k2⟩ := hk e (by rw [e2]; simp) e3
  exact ⟨x, e1, by rw [k1]; exact e2, k2⟩
theorem DeR.fr {M M' : ZM} {own own' : Nat → Nat} {z lw : Nat} {ds : List DS} (h : DeR M z own lw ds) (hk : Kp M own 33 M' own') (hz : M' z = M z) : DeR M' z own' lw ds := by
  obtain ⟨arr, es, cap, h2, h3, h4, h5, o2, o4⟩ := h
  obtain ⟨⟨mc, hla⟩, hr, -⟩ := id h2
  refine ⟨arr, es, cap, h2.fr hk hz o2 o4, h3, h4, fun j e hj => ?_, (hk lw (by rw [hla]; simp) o2).2, arr_fr h2 hk o4⟩
  obtain ⟨x, e1, e2, e3⟩ := h5 j e hj
  obtain ⟨k1, k2⟩ := hk e (by rw [e2]; simp) e3
  exact ⟨x, e1, by rw [k1]; exact e2, k2⟩
theorem MaR.fr {M M' : ZM} {own own' : Nat → Nat} {x qarr lt lw : Nat} {qs : List Nat} {S : MS} (h : MaR M own x qarr lt lw qs S) (hk : Kp M own 34 M' own') : MaR M' own' x qarr lt lw qs S := by
  obtain ⟨h1, h2, h3, h4, h5⟩ := h
  obtain ⟨k1, k2⟩ := hk x (by rw [h1]; simp) h4
  obtain ⟨k3, k4⟩ := hk qarr (by rw [h2]; simp) h5
  exact ⟨by rw [k1]; exact h1, by rw [k3]; exact h2, h3, k2, k4⟩
