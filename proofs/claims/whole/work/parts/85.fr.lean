/-! TWO WORLDS BESIDE EACH OTHER. -/
def zjn (N B : ZM) : ZM := fun q => match N q with
  | some e => some e
  | none => B q
def zdj (z : Nat) (N B : ZM) : Prop := ∀ q, N q ≠ none → B q ≠ none → q = z
theorem zjn_l {N B : ZM} {q : Nat} {e : ZE} (h : N q = some e) : zjn N B q = some e := by unfold zjn; rw [h]
theorem zjn_r {N B : ZM} {q : Nat} (h : N q = none) : zjn N B q = B q := by unfold zjn; rw [h]
theorem zjn_comm {z : Nat} {N B : ZM} (h : zdj z N B) (hz : N z = B z) : zjn N B = zjn B N := by
  funext q
  cases hn : N q with
  | none =>
    rw [zjn_r hn]
    cases hb : B q with
    | none => rw [zjn_r hb, hn]
    | some e => rw [zjn_l hb]
  | some e =>
    rw [zjn_l hn]
    cases hb : B q with
    | none => rw [zjn_r hb, hn]
    | some e' =>
      have := h q (by rw [hn]; simp) (by rw [hb]; simp)
      subst this
      rw [zjn_l hb, ← hn, ← hb, hz]
theorem zjn_assoc (N B C : ZM) : zjn (zjn N B) C = zjn N (zjn B C) := by
  funext q
  cases hn : N q with
  | none =>
    rw [zjn_r hn]
    cases hb : B q with
    | none => rw [zjn_r hb, zjn_r (by rw [zjn_r hn]; exact hb)]
    | some e => rw [zjn_l hb, zjn_l (by rw [zjn_r hn]; exact hb)]
  | some e => rw [zjn_l hn, zjn_l (zjn_l hn)]
theorem zdj.symm {z : Nat} {N B : ZM} (h : zdj z N B) : zdj z B N := fun q h1 h2 => h q h2 h1
theorem zdj.join {z : Nat} {N B C : ZM} (h1 : zdj z N B) (h2 : zdj z N C) : zdj z N (zjn B C) := fun q a b => by
  cases hb : B q with
  | none => rw [zjn_r hb] at b; exact h2 q a b
  | some e => exact h1 q a (by rw [hb]; simp)
theorem zdj.left {z : Nat} {N B C : ZM} (h : zdj z N (zjn B C)) : zdj z N B := fun q a b => by
  cases hb : B q with
  | none => exact absurd hb b
  | some e => exact h q a (by rw [zjn_l hb]; simp)
theorem zdj.right {z : Nat} {N B C : ZM} (h : zdj z N (zjn B C)) : zdj z N C := fun q a b => by
  cases hb : B q with
  | none => exact h q a (by rw [zjn_r hb]; exact b)
  | some e => exact h q a (by rw [zjn_l hb]; simp)
theorem zjn_new {N B : ZM} {q : Nat} (e : ZE) (h : N q = none) : zset (zjn N B) q e = zjn N (zset B q e) := by
  funext y
  by_cases hy : y = q
  · rw [hy, zset_self, zjn_r h, zset_self]
  · rw [zset_ne hy]
    cases hn : N y with
    | none => rw [zjn_r hn, zjn_r hn, zset_ne hy]
    | some e' => rw [zjn_l hn, zjn_l hn]
/-- what may be written by a call that knows N alone -/
def zsA (g : ZG) (N B : ZM) : Nat → Prop := fun q => g.2.2.1 q ∧ (N q ≠ none ∨ zjn N B q = none)
def zsG (g : ZG) (N B : ZM) : ZG := (g.1, g.2.1, zsA g N B, g.2.2.2)
theorem zE.sub {g : ZG} {N B : ZM} {U : State} {H : Heap} (h : zE g U H) : zE (zsG g N B) U H := by
  obtain ⟨⟨⟨cf, kf, fi, f, a, cell, a1, a2, a3, a4, a5, a6, a7, a8⟩, hx, hb⟩, ⟨c, k, i, f1, b1, cell1, v, b2, b3, b4, b5, b6, b7, b8, b9, b10, b11, b12, b13⟩, ⟨c', k', i', f1', b1', cell1', v', b2', b3', b4', b5', b6', b7', b8', b9', b10', b11', b12', b13'⟩, h3⟩ := h
  exact ⟨⟨⟨cf, kf, fi, f, a, cell, a1, a2, a3, a4, a5, a6, a7, fun q => a8 q.1⟩, hx, fun q => hb q.1⟩, ⟨c, k, i, f1, b1, cell1, v, b2, b3, b4, b5, b6, b7, b8, b9, b10, b11, b12, fun q => b13 q.1⟩, ⟨c', k', i', f1', b1', cell1', v', b2', b3', b4', b5', b6', b7', b8', b9', b10', b11', b12', fun q => b13' q.1⟩, h3⟩
theorem zPre.sub {cl : List vw_C} {tl : List FieldType} {g : ZG} {N B : ZM} {U : State} (hNz : N g.2.2.2.1 = some (.inl (0, []))) (h : zPre cl tl g (zjn N B) U) : zPre cl tl (zsG g N B) N U := by
  obtain ⟨hP, hK, hA, hE⟩ := h
  refine ⟨⟨fun a e ha => hP.1 a e (zjn_l ha), fun a e ha => ?_, hNz⟩, hK, fun q hq => ⟨hA q hq, Or.inr (hP.fresh hq)⟩, hE.sub⟩
  rcases hP.2.1 a e (zjn_l ha) with w | w
  · exact Or.inl w
  · exact Or.inr ⟨w, Or.inl (by rw [ha]; simp)⟩
theorem zP.back {cl : List vw_C} {g : ZG} {N N' B : ZM} {s t : State} (hd : zdj g.2.2.2.1 N B) (hNz : N g.2.2.2.1 = some (.inl (0, []))) (hP0 : zP cl g (zjn N B) s.heap) (hP : zP cl (zsG g N B) N' t.heap) (hF : va_F (zsA g N B) s t) : zP cl g (zjn N' B) t.heap ∧ zdj g.2.2.2.1 N' B := by
  have hdj : zdj g.2.2.2.1 N' B := fun q a b => by
    cases hn : N' q with
    | none => exact absurd hn a
    | some e =>
      rcases hP.2.1 q e hn with w | w
      · exact w
      · rcases w.2 with u | u
        · exact hd q u b
        · cases hnq : N q with
          | some e' => exact hd q (by rw [hnq]; simp) b
          | none => rw [zjn_r hnq] at u; exact absurd u b
  have hout : ∀ (q : Nat) (e : ZE), N' q = none → B q = some e → zjn N B q = some e ∧ t.heap[q]? = s.heap[q]? := fun q e h1 h2 => by
    have hnq : N q = none := by
      cases hnq : N q with
      | none => rfl
      | some e' =>
        have hz := hd q (by rw [hnq]; simp) (by rw [h2]; simp)
        rw [hz] at h1
        have hz2 : N' g.2.2.2.1 = some (.inl (0, [])) := hP.2.2
        rw [hz2] at h1
        cases h1
    have hj : zjn N B q = some e := by rw [zjn_r hnq]; exact h2
    refine ⟨hj, hF.2 q (hP0.lt hj) (fun w => ?_)⟩
    rcases w.2 with u | u
    · exact u hnq
    · rw [hj] at u; cases u
  refine ⟨⟨fun q e hq => ?_, fun q e hq => ?_, zjn_l hP.2.2⟩, hdj⟩
  · cases hn : N' q with
    | some e' =>
      rw [zjn_l hn] at hq
      cases hq
      exact hP.1 q _ hn
    | none =>
      rw [zjn_r hn] at hq
      obtain ⟨h1, h2⟩ := hout q e hn hq
      exact (hP0.1 q e h1).kept h2
  · cases hn : N' q with
    | some e' =>
      rcases hP.2.1 q e' hn with w | w
      · exact Or.inl w
      · exact Or.inr w.1
    | none =>
      rw [zjn_r hn] at hq
      obtain ⟨h1, h2⟩ := hout q e hn hq
      exact hP0.2.1 q e h1
theorem va_F.sub {g : ZG} {N B : ZM} {s t : State} (h : va_F (zsA g N B) s t) : va_F g.2.2.1 s t := ⟨h.1, fun q hq hA => h.2 q hq (fun w => hA w.1)⟩
theorem ZC.frame {cl : List vw_C} {tl : List FieldType} {Ts : List Cond} {l : Launch} {g : ZG} {y : MethodName} {cc : ByteArray} {nL : Nat} {ret : Option FieldType} {R : Room} {av : List Value} {N B : ZM} {post : Option Value → ZM → Prop} (hd : zdj g.2.2.2.1 N B) (hNz : N g.2.2.2.1 = some (.inl (0, []))) (h : ZC cl tl Ts l (zsG g N B) y cc nL ret R av N post) : ZC cl tl Ts l g y cc nL ret R av (zjn N B) (fun v M' => ∃ N' : ZM, post v N' ∧ M' = zjn N' B ∧ zdj g.2.2.2.1 N' B ∧ N' g.2.2.2.1 = some (.inl (0, []))) := by
  intro p e h1 h2 h3 s m args below h4 h5 hP hK
  obtain ⟨ha, hpre⟩ := hP
  obtain ⟨n, o, q1, q2, q3, ⟨⟨v, N', ho, hp, hP'⟩, hF⟩, L, hFE, hL⟩ := h p e h1 h2 h3 s m args below h4 h5 ⟨ha, hpre.sub hNz⟩ hK
  obtain ⟨b1, b2⟩ := zP.back hd hNz hpre.1 hP' hF
  exact ⟨n, o, q1, q2, q3, ⟨⟨v, zjn N' B, ho, ⟨N', hp, rfl, b2, hP'.2.2⟩, b1⟩, hF.sub⟩, L, hFE, fun q hq => (hL q hq).1⟩
theorem ZCT.frame {cl : List vw_C} {tl : List FieldType} {Ts : List Cond} {l : Launch} {g : ZG} {y : MethodName} {cc : ByteArray} {nL : Nat} {ret : Option FieldType} {R : Room} {av : List Value} {N B : ZM} {post : ZM → Prop} (hd : zdj g.2.2.2.1 N B) (hNz : N g.2.2.2.1 = some (.inl (0, []))) (h : ZCT cl tl Ts l (zsG g N B) y cc nL ret R av N post) : ZCT cl tl Ts l g y cc nL ret R av (zjn N B) (fun M' => ∃ N' : ZM, post N' ∧ M' = zjn N' B ∧ zdj g.2.2.2.1 N' B ∧ N' g.2.2.2.1 = some (.inl (0, []))) := by
  intro p e h1 h2 h3 s m args below h4 h5 hP hK
  obtain ⟨ha, hpre⟩ := hP
  obtain ⟨n, o, q1, q2, q3, ⟨⟨v, N', cell, ho, hp, hP', hr⟩, hF⟩, L, hFE, hL⟩ := h p e h1 h2 h3 s m args below h4 h5 ⟨ha, hpre.sub hNz⟩ hK
  obtain ⟨b1, b2⟩ := zP.back hd hNz hpre.1 hP' hF
  exact ⟨n, o, q1, q2, q3, ⟨⟨v, zjn N' B, cell, ho, ⟨N', hp, rfl, b2, hP'.2.2⟩, b1, hr⟩, hF.sub⟩, L, hFE, fun q hq => (hL q hq).1⟩
