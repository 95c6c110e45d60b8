theorem zidx {q : Int32} (h : ¬ (q < 0 ∨ 32 ≤ q)) : ∃ i : Nat, i < 32 ∧ q = nI i := by
  rcases pk_ix q (n := 32) (by decide) with h1 | h1 | h1
  · exact absurd (Or.inl h1) h
  · exact absurd (Or.inr h1) h
  · exact h1
theorem zift {p : Prop} [Decidable p] (h : (if p then (0 : Int32) else 1) = 0) : p := by
  by_cases hp : p
  · exact hp
  · rw [if_neg hp] at h
    exact absurd h (by decide)
theorem zifn {p : Prop} [Decidable p] (h : ¬ (if p then (0 : Int32) else 1) = 0) : ¬ p := by
  intro hp
  rw [if_pos hp] at h
  exact h rfl
/-- only what belongs to queue i changes -/
theorem MRep.updQ {M M' : ZM} {own : Nat → Nat} {z x qarr lt lw i qa cap : Nat} {qs : List Nat} {S : MS} {s' : QS} (hm : MRep M z own x qarr lt lw qs S cap) (hq : qs[i]? = some qa) (hz0 : M z ≠ none) (fr : ∀ y, M y ≠ none → own y ≠ i → M' y = M y) (hQ : QRep M' z (ow M own i) i qa s') : MRep M' z (ow M own i) x qarr lt lw qs (S.1, va_up S.2.1 i s', S.2.2) cap := by
  obtain ⟨⟨m1, m2, m3, m4, m5⟩, hqs, hT, hd, hz⟩ := id hm
  have hi : i < 32 := by rw [← m3]; exact (List.getElem?_eq_some_iff.mp hq).1
  refine hm.upd hq (fun y hy => ow_old hy) hz0 ?_ rfl hQ (hT.fr (Kp.ow (fun y hy hyo => fr y hy (by omega))) (fr z hz0 (by omega))) rfl (fun y y1 _ y3 _ => fr y y1 y3)
  rw [fr x (by rw [m1]; simp) (by omega)]
  exact m1
def putQ (s : QS) (now : Int64) (k : Int32) (v : Int64) (u : Int32) : QS := (k, s.2.1 ++ [v], (if kProt k ∧ ¬ u = 0 then s.2.2.1 + 1 else s.2.2.1), (if kProt k ∧ ¬ u = 0 then u else s.2.2.2.1), now, (if kTrans k then s.2.2.2.2.2.1 + 1 else s.2.2.2.2.2.1), s.2.2.2.2.2.2)
def putA (s : QS) (k : Int32) : Int32 := if kTrans k then s.2.2.2.2.2.1 + 1 else nI (s.2.1.length + 1)
def putS (S : MS) (i : Nat) (k : Int32) (v : Int64) (u : Int32) : MS := (S.1, va_up S.2.1 i (putQ (S.2.1 i) S.2.2.2.2.2.2 k v u), S.2.2)
/-- which put is refused -/
abbrev adm (s : QS) (k : Int32) : Prop := if s.1 = -1 then (s.2.2.2.2.2.2.2.2.1 = none ∨ ¬ k < 2) else s.1 = k
abbrev putB (k u : Int32) : Prop := k < 0 ∨ 4 ≤ k ∨ u < 0 ∨ 9 < u
abbrev putL (s : QS) (u : Int32) : Prop := ¬ s.2.2.1 = 0 ∧ ¬ s.2.2.2.1 = u
def putI (S : MS) (i : Nat) (k : Int32) (v : Int64) (u : Int32) : Int32 × MS :=
  if putB k u then (-2, S) else if ¬ adm (S.2.1 i) k then (-3, S) else if putL (S.2.1 i) u then (-5, S) else if ¬ nI (tot S 32) < S.1 then (-1, S) else (putA (S.2.1 i) k, lookN (putS S i k v u) 32)
theorem putI_2 {S : MS} {i : Nat} {k u : Int32} {v : Int64} (h : putB k u) : putI S i k v u = (-2, S) := by unfold putI; rw [if_pos h]
theorem putI_3 {S : MS} {i : Nat} {k u : Int32} {v : Int64} (h : ¬ putB k u) (h2 : ¬ adm (S.2.1 i) k) : putI S i k v u = (-3, S) := by unfold putI; rw [if_neg h, if_pos h2]
theorem putI_5 {S : MS} {i : Nat} {k u : Int32} {v : Int64} (h : ¬ putB k u) (h2 : adm (S.2.1 i) k) (h3 : putL (S.2.1 i) u) : putI S i k v u = (-5, S) := by unfold putI; rw [if_neg h, if_neg (not_not_intro h2), if_pos h3]
theorem putI_1 {S : MS} {i : Nat} {k u : Int32} {v : Int64} (h : ¬ putB k u) (h2 : adm (S.2.1 i) k) (h3 : ¬ putL (S.2.1 i) u) (h4 : ¬ nI (tot S 32) < S.1) : putI S i k v u = (-1, S) := by unfold putI; rw [if_neg h, if_neg (not_not_intro h2), if_neg h3, if_pos h4]
theorem putI_0 {S : MS} {i : Nat} {k u : Int32} {v : Int64} (h : ¬ putB k u) (h2 : adm (S.2.1 i) k) (h3 : ¬ putL (S.2.1 i) u) (h4 : nI (tot S 32) < S.1) : putI S i k v u = (putA (S.2.1 i) k, lookN (putS S i k v u) 32) := by unfold putI; rw [if_neg h, if_neg (not_not_intro h2), if_neg h3, if_neg (not_not_intro h4)]
theorem nI_le0 {n : Nat} (h : n < 2 ^ 31) : nI n ≤ 0 ↔ n = 0 := by
  constructor
  · intro q
    rcases Nat.eq_zero_or_pos n with e | e
    · exact e
    · exact absurd q (nI_nle e h)
  · intro e
    rw [e]
    decide
theorem c_Qu_admits (l : Launch) (g : ZG) (M : ZM) (a la pa : Nat) (kd pe ho : Int32) (us : Int64) (ln tn : Int32) (tv : Int64) (tr : Value) (w : Int32) (ha : M a = some (.inr (1, fQ la pa kd pe ho us ln tn tv tr))) (ht : tr = .null ∨ ∃ t : Nat, tr = .ref t) : ZC vcl tlx GT l g y_Qu_admits b_Qu_admits 2 (Option.some FieldType.boolean) (ZRm 1 0 0) [.ref a, .int w] M (fun r M' => M = M' ∧ r = some (.int (if (if kd = -1 then (tr = .null ∨ ¬ w < 2) else kd = w) then 1 else 0))) := by
  rcases ht with rfl | ⟨t, rfl⟩
  · have h := c_Qu_admitsN l g M a la pa kd pe ho us ln tn tv w ha
    have e : ∀ (r : Option Value) (M' : ZM), (M = M' ∧ r = some (.int (if kd = -1 then 1 else if kd = w then 1 else 0))) = (M = M' ∧ r = some (.int (if (if kd = -1 then ((Value.null : Value) = .null ∨ ¬ w < 2) else kd = w) then 1 else 0))) := by
      intro r M'
      by_cases h1 : kd = -1 <;> simp [h1]
    simpa only [e] using h
  · have h := c_Qu_admitsR l g M a la pa kd pe ho us ln tn tv w t ha
    have e : ∀ (r : Option Value) (M' : ZM), (M = M' ∧ r = some (.int (if kd = -1 then (if w < 2 then 0 else 1) else if kd = w then 1 else 0))) = (M = M' ∧ r = some (.int (if (if kd = -1 then ((Value.ref t : Value) = .null ∨ ¬ w < 2) else kd = w) then 1 else 0))) := by
      intro r M'
      by_cases h1 : kd = -1
      · by_cases h2 : w < 2 <;> simp [h1, h2]
      · simp [h1]
    simpa only [e] using h
theorem TrR.cases {M : ZM} {own : Nat → Nat} {i : Nat} {t : Option TS} {tr : Value} (h : TrR M own i t tr) : (tr = .null ∨ ∃ t : Nat, tr = .ref t) ∧ (tr = .null ↔ t = none) := by
  cases t with
  | none => exact ⟨Or.inl h, fun _ => rfl, fun _ => h⟩
  | some t =>
    obtain ⟨ta, h1, -⟩ := h
    exact ⟨Or.inr ⟨ta, h1⟩, ⟨fun e => (by rw [h1] at e; cases e), fun e => (by cases e)⟩⟩
theorem Qx.app {M M' : ZM} {own : Nat → Nat} {z i qa la pa arr cap : Nat} {s : QS} {es : List Nat} {tr : Value} {q arr' : Nat} {k u : Int32} {v now : Int64} (h : Qx M z own i qa s la pa arr es cap tr) (hlen : s.2.1.length ≤ 600) (hq : M q = none) (hr : arr' = arr ∨ M arr' = none) (hz : arr' ≠ z)
    (ha : M' qa = some (.inr (1, fQs la pa (putQ s now k v u) tr))) (hl : ALr M' z la arr' (es ++ [q]) (capA es.length cap)) (hi : M' q = some (.inr (2, [.long v]))) (fr : ∀ x, x ≠ qa → x ≠ la → x ≠ arr' → x ≠ q → M' x = M x) : QRep M' z (ow M own i) i qa (putQ s now k v u) := by
  obtain ⟨h1, h2, h3, ⟨h4, h5, h6⟩, h7, h8, h9, h10, o1, o2, o3, o4⟩ := h
  obtain ⟨⟨mc, hla⟩, hr0, hle, hcz⟩ := id h2
  have fr2 : ∀ y, M y ≠ none → y ≠ qa → y ≠ la → y ≠ arr → M' y = M y := fun y y1 y2 y3 y4 => fr y y2 y3 (fun e2 => hr.elim (fun e => y4 (e2.trans e)) (fun e => y1 (by rw [e2]; exact e))) (fun e => y1 (by rw [e]; exact hq))
  refine ⟨la, pa, arr', es ++ [q], capA es.length cap, tr, ha, hl, capA_ok (by omega) h3 hle, ⟨?_, ?_, ?_⟩, ?_, h8, ?_, ?_, ?_, ?_, ?_, ?_⟩
  · show (es ++ [q]).length = (s.2.1 ++ [v]).length
    simp [h4]
  · intro j e hj
    show ∃ x, (s.2.1 ++ [v])[j]? = some x ∧ _
    by_cases hjl : j < es.length
    · rw [List.getElem?_append_left hjl] at hj
      obtain ⟨x, e1, e2, e3⟩ := h5 j e hj
      refine ⟨x, by rw [List.getElem?_append_left (by omega)]; exact e1, ?_, by rw [ow_old (by rw [e2]; simp)]; exact e3⟩
      rw [fr2 e (by rw [e2]; simp) (zne e2 h1 (by simp)) (zne e2 hla (by simp)) (zne e2 hr0 (by intro h; cases h))]
      exact e2
    · have hjn : j = es.length := by have := (List.getElem?_eq_some_iff.mp hj).1; simp at this; omega
      rw [hjn, List.getElem?_append_right (Nat.le_refl _), Nat.sub_self] at hj
      obtain rfl : q = e := by simpa using hj
      exact ⟨v, by rw [hjn, h4, List.getElem?_append_right (Nat.le_refl _), Nat.sub_self]; rfl, hi, ow_new hq⟩
  · rw [List.nodup_append]
    refine ⟨h6, by simp, fun a ha b hb => ?_⟩
    obtain ⟨j, hj⟩ := List.getElem?_of_mem ha
    obtain ⟨y, -, hy, -⟩ := h5 j a hj
    rw [List.mem_singleton.mp hb]
    exact zfresh_ne hy hq
  · show M' pa = some (.inl (1, s.2.2.2.2.2.2.2.2.2.map Value.int))
    rw [fr2 pa (by rw [h7]; simp) (zne h7 h1 (by intro h; cases h)) (zne h7 hla (by intro h; cases h)) (zne h7 hr0 (by simp))]
    exact h7
  · show (if kProt k ∧ ¬ u = 0 then s.2.2.1 + 1 else s.2.2.1) ≤ (s.2.1 ++ [v]).length
    rw [List.length_append]
    split <;> simp <;> omega
  · show TrR M' (ow M own i) i s.2.2.2.2.2.2.2.2.1 tr
    unfold TrR at h10 ⊢
    split
    · rename_i ht
      rw [ht] at h10
      exact h10
    · rename_i t ht
      rw [ht] at h10
      obtain ⟨ta, e1, e2, e3⟩ := h10
      exact ⟨ta, e1, by rw [ow_old (by rw [e3]; simp)]; exact e2, by rw [fr2 ta (by rw [e3]; simp) (zne e3 h1 (by simp)) (zne e3 hla (by simp)) (zne e3 hr0 (by intro h; cases h))]; exact e3⟩
  · rw [ow_old (by rw [h1]; simp)]; exact o1
  · rw [ow_old (by rw [hla]; simp)]; exact o2
  · rw [ow_old (by rw [h7]; simp)]; exact o3
  · intro _
    rcases hr with e | e
    · rw [e, ow_old (by rw [hr0]; simp)]
      exact o4 (by rw [← e]; exact hz)
    · exact ow_new e
/-- a queue's own numbers change, in its own object -/
theorem Qx.own1 {M : ZM} {own : Nat → Nat} {z i qa la pa arr cap : Nat} {s s' : QS} {es : List Nat} {tr : Value} (h : Qx M z own i qa s la pa arr es cap tr) (e1 : s'.2.1 = s.2.1) (e2 : s'.2.2.2.2.2.2.2.2 = s.2.2.2.2.2.2.2.2) (e3 : s'.2.2.1 ≤ s'.2.1.length) (hz : z ≠ qa) : Qx (zset M qa (.inr (1, fQs la pa s' tr))) z own i qa s' la pa arr es cap tr := by
  obtain ⟨h1, h2, h3, ⟨h4, h5, h6⟩, h7, h8, h9, h10, o1, o2, o3, o4⟩ := h
  obtain ⟨⟨mc, hla⟩, hr0, hle, hcz⟩ := id h2
  refine ⟨zset_self _ _ _, h2.kept (zset_ne (zne hla h1 (by simp))) (zset_ne (zne hr0 h1 (by intro h; cases h))), h3, ⟨by rw [e1]; exact h4, fun j e hj => ?_, h6⟩, by rw [zset_ne (zne h7 h1 (by intro h; cases h)), e2]; exact h7, by rw [e2]; exact h8, e3, ?_, o1, o2, o3, o4⟩
  · obtain ⟨x, y1, y2, y3⟩ := h5 j e hj
    exact ⟨x, by rw [e1]; exact y1, by rw [zset_ne (zne y2 h1 (by simp))]; exact y2, y3⟩
  · rw [e2]
    unfold TrR at h10 ⊢
    split
    · rename_i ht
      rw [ht] at h10
      exact h10
    · rename_i t ht
      rw [ht] at h10
      obtain ⟨ta, y1, y2, y3⟩ := h10
      exact ⟨ta, y1, y2, by rw [zset_ne (zne y3 h1 (by simp))]; exact y3⟩
