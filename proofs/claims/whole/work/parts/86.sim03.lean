/-! THE CLASS'S STATE AND THE REFERENCE'S, SIDE BY SIDE. -/
abbrev qT (s : QS) : Option TS := s.2.2.2.2.2.2.2.2.1
abbrev qP (s : QS) : List Int32 := s.2.2.2.2.2.2.2.2.2
abbrev qS (s : QS) : Int32 := nI (s.2.1.length - s.2.2.1)
def KI (s : QS) (N : NS) (q : Nat) : Prop := N.2.2.1 7 q = s.1 ∧ N.2.2.1 8 q = s.2.2.2.2.2.1 ∧ N.2.2.1 12 q = s.2.2.2.2.2.2.1 ∧ N.2.2.2.1 15 q = s.2.2.2.2.1 ∧ N.2.2.2.1 16 q = s.2.2.2.2.2.2.2.1 ∧ (qP s).length = 8 ∧ ∀ r, r < 8 → N.2.2.1 17 (8 * q + r) = (qP s).getD r 0
def TI (s : QS) (N : NS) (q : Nat) : Prop := match qT s with
  | none => N.2.2.1 9 q = 0
  | some t => ¬ kTemp s.1 ∧ N.2.2.1 9 q = t.1 ∧ 0 < t.1 ∧ N.2.2.1 10 q = t.2.1 ∧ N.2.2.1 13 q = t.2.2.1 ∧ (t.2.2.1 = 0 ∨ t.2.2.1 = 1) ∧ N.2.2.1 11 q = t.2.2.2.1 ∧ (¬ t.2.2.2.1 = 0 → N.2.2.1 14 q = t.2.2.2.2)
def II (c : Nat) (s : QS) (l : List Rw) : Prop :=
  l.map (fun r => r.2.2.2) = s.2.1 ∧ l.map (fun r => r.2.2.1) = List.replicate (s.2.1.length - s.2.2.1) 0 ++ List.replicate s.2.2.1 s.2.2.2.1 ∧ s.2.2.1 ≤ s.2.1.length ∧ (¬ s.2.2.1 = 0 → ¬ s.2.2.2.1 ≤ 0 ∧ kProt s.1) ∧ ((s.1 = -1 ∧ s.2.1 = []) ∨ ((s.1 = 0 ∨ s.1 = 1 ∨ s.1 = 2 ∨ s.1 = 3) ∧ s.2.1 ≠ [])) ∧ (∃ m, s.2.2.2.2.2.1 = nI m ∧ m ≤ c ∧ (kTrans s.1 → s.2.1.length ≤ m ∧ ∀ (j : Nat) (r : Rw), l[j]? = some r → r.2.1 = nI (m - s.2.1.length + j + 1))) ∧ (∃ t, s.2.2.2.2.2.2.1 = nI t ∧ t ≤ c) ∧ ∀ p ∈ qP s, ∃ m, m ≤ c ∧ p = nI m
def stb (o : Option TS) (n : Int32) : Nat := match o with
  | none => 0
  | some t => if ¬ n < t.1 ∧ ¬ t.2.2.1 = 0 ∧ t.2.2.2.1 = 0 then 1 else 0
def wq (s : QS) : Nat := s.2.2.1 + stb (qT s) (qS s)
def Psi (S : MS) : Nat := S.2.2.1.length + S.2.2.2.2.1.length + sumQ (fun q => wq (S.2.1 q)) 32
def TK (S : MS) (N : NS) : Prop := N.2.1 1 = S.2.2.1.length ∧ (∀ (j : Nat) (x : Int32 × Int32), S.2.2.1[j]? = some x → N.2.2.1 18 j = x.1 ∧ N.2.2.1 19 j = x.2) ∧ S.2.2.2.1 = N.1 2
/-- the delays that wait, as the reference keeps them, and in order -/
def dlN (N : NS) (n : Nat) : List DS := (List.range n).map (fun k => (N.2.2.1 23 k, N.2.2.1 24 k, N.2.2.2.1 25 k))
def dlL (N : NS) : List DS := dlN N (N.2.1 2)
def insF (l : List DS) (d : DS) : List DS := l.filter (fun x => decide (x.2.2 ≤ d.2.2)) ++ d :: l.filter (fun x => decide (d.2.2 < x.2.2))
def srt (l : List DS) : List DS := l.foldl insF []
def DL (c : Nat) (S : MS) (N : NS) : Prop := S.2.2.2.2.1 = srt (dlL N) ∧ N.2.1 2 ≤ 200 ∧ S.2.2.2.2.2.1 = N.1 3 ∧ (∃ d, N.1 3 = nI d ∧ d ≤ c ∧ ∀ x ∈ dlL N, ∃ m, m ≤ d ∧ x.1 = nI m) ∧ ((dlL N).map (fun x => x.1)).Nodup ∧ ∀ x ∈ dlL N, S.2.2.2.2.2.2 < x.2.2
def QA (c : Nat) (s : QS) (N : NS) (q : Nat) : Prop := KI s N q ∧ TI s N q ∧ II c s (fq (nI q) (itL N))
def SR (c : Nat) (S : MS) (N : NS) : Prop := S.1 = N.1 1 ∧ (∀ q, q < 32 → QA c (S.2.1 q) N q) ∧ moQ N ∧ TK S N ∧ DL c S N ∧ S.2.2.2.2.2.2 = N.2.2.2.2 ∧ Psi S ≤ c ∧ N.2.1 0 ≤ c
/-- no trigger is due -/
def sed (s : QS) : Prop := ∀ t, qT s = some t → (qS s < t.1 → t.2.2.1 = 1) ∧ (¬ qS s < t.1 → ¬ (¬ t.2.2.1 = 0 ∧ t.2.2.2.1 = 0))
def Stl (S : MS) : Prop := ∀ q, q < 32 → sed (S.2.1 q)
def SI (c : Nat) (S : MS) (N : NS) : Prop := SR c S N ∧ Stl S
theorem lookI_none {S : MS} {i : Nat} (h : qT (S.2.1 i) = none) : lookI S i = S := by
  have h' : (S.2.1 i).2.2.2.2.2.2.2.2.1 = none := h
  unfold lookI
  rw [h']
theorem lookI_some {S : MS} {i : Nat} {t : TS} (h : qT (S.2.1 i) = some t) : lookI S i = addT S (va_up S.2.1 i (setTr (S.2.1 i) (some (lookT t (qS (S.2.1 i)) S.2.2.1.length).1))) (lookT t (qS (S.2.1 i)) S.2.2.1.length).2 := by
  have h' : (S.2.1 i).2.2.2.2.2.2.2.2.1 = some t := h
  unfold lookI
  rw [h']
theorem II.st {c : Nat} {s : QS} {l : List Rw} (h : II c s l) : l.countP (fun r => decide (r.2.2.1 = 0)) = s.2.1.length - s.2.2.1 := by
  obtain ⟨h1, h2, h3, h4, -⟩ := h
  have e : l.countP (fun r => decide (r.2.2.1 = 0)) = (l.map (fun r => r.2.2.1)).countP (fun x => decide (x = 0)) := by rw [List.countP_map]; rfl
  rw [e, h2, List.countP_append, List.countP_replicate, List.countP_replicate]
  by_cases hp : s.2.2.1 = 0
  · simp [hp]
  · have : ¬ s.2.2.2.1 = 0 := fun e => (h4 hp).1 (by rw [e]; decide)
    simp [this]
theorem II.len {c : Nat} {s : QS} {l : List Rw} (h : II c s l) : l.length = s.2.1.length := by
  rw [← h.1, List.length_map]
theorem SR.st {c : Nat} {S : MS} {N : NS} (h : SR c S N) {q : Nat} (hq : q < 32) : stN N (nI q) (N.2.1 0) = (S.2.1 q).2.1.length - (S.2.1 q).2.2.1 := by
  rw [stN_F]
  exact (h.2.1 q hq).2.2.st
/-- what belongs to a queue, unchanged -/
theorem QA.congr {c : Nat} {s : QS} {N N' : NS} {q : Nat} (h : QA c s N q) (h7 : N'.2.2.1 7 q = N.2.2.1 7 q) (h8 : N'.2.2.1 8 q = N.2.2.1 8 q) (h12 : N'.2.2.1 12 q = N.2.2.1 12 q) (h15 : N'.2.2.2.1 15 q = N.2.2.2.1 15 q) (h16 : N'.2.2.2.1 16 q = N.2.2.2.1 16 q) (h17 : ∀ r, r < 8 → N'.2.2.1 17 (8 * q + r) = N.2.2.1 17 (8 * q + r)) (h9 : N'.2.2.1 9 q = N.2.2.1 9 q) (h10 : N'.2.2.1 10 q = N.2.2.1 10 q) (h11 : N'.2.2.1 11 q = N.2.2.1 11 q) (h13 : N'.2.2.1 13 q = N.2.2.1 13 q) (h14 : N'.2.2.1 14 q = N.2.2.1 14 q) (hi : fq (nI q) (itL N') = fq (nI q) (itL N)) : QA c s N' q := by
  obtain ⟨⟨k1, k2, k3, k4, k5, k6, k7⟩, ht, hI⟩ := h
  refine ⟨⟨by rw [h7]; exact k1, by rw [h8]; exact k2, by rw [h12]; exact k3, by rw [h15]; exact k4, by rw [h16]; exact k5, k6, fun r hr => by rw [h17 r hr]; exact k7 r hr⟩, ?_, by rw [hi]; exact hI⟩
  unfold TI at ht ⊢
  split
  · rename_i e
    rw [e] at ht
    rw [h9]; exact ht
  · rename_i t e
    rw [e] at ht
    rw [h9, h10, h11, h13, h14]; exact ht
theorem II.mono {c c' : Nat} {s : QS} {l : List Rw} (h : II c s l) (hc : c ≤ c') : II c' s l := by
  obtain ⟨h1, h2, h3, h4, h5, ⟨m, m1, m2, m3⟩, ⟨t, t1, t2⟩, hp⟩ := h
  refine ⟨h1, h2, h3, h4, h5, ⟨m, m1, by omega, m3⟩, ⟨t, t1, by omega⟩, fun p hpp => ?_⟩
  obtain ⟨m, p1, p2⟩ := hp p hpp
  exact ⟨m, by omega, p2⟩
theorem QA.mono {c c' : Nat} {s : QS} {N : NS} {q : Nat} (h : QA c s N q) (hc : c ≤ c') : QA c' s N q := ⟨h.1, h.2.1, h.2.2.mono hc⟩
theorem DL.mono {c c' : Nat} {S : MS} {N : NS} (h : DL c S N) (hc : c ≤ c') : DL c' S N := by
  obtain ⟨h1, h2, h3, ⟨d, d1, d2, d3⟩, h5⟩ := h
  exact ⟨h1, h2, h3, ⟨d, d1, by omega, d3⟩, h5⟩
theorem SR.mono {c c' : Nat} {S : MS} {N : NS} (h : SR c S N) (hc : c ≤ c') : SR c' S N := by
  obtain ⟨h1, h2, h3, h4, h5, h6, h7, h8⟩ := h
  exact ⟨h1, fun q hq => (h2 q hq).mono hc, h3, h4, h5.mono hc, h6, by omega, by omega⟩
theorem dlN_len (N : NS) (n : Nat) : (dlN N n).length = n := by simp [dlN]
theorem dlN_succ (N : NS) (n : Nat) : dlN N (n + 1) = dlN N n ++ [(N.2.2.1 23 n, N.2.2.1 24 n, N.2.2.2.1 25 n)] := by simp [dlN, List.range_succ]
theorem dlL_congr {N N' : NS} (h : N'.2.1 2 = N.2.1 2) (h1 : N'.2.2.1 23 = N.2.2.1 23) (h2 : N'.2.2.1 24 = N.2.2.1 24) (h3 : N'.2.2.2.1 25 = N.2.2.2.1 25) : dlL N' = dlL N := by
  unfold dlL dlN
  rw [h, h1, h2, h3]
theorem TI.yes {s : QS} {N : NS} {q : Nat} {t : TS} (h : TI s N q) (e : qT s = some t) : ¬ kTemp s.1 ∧ N.2.2.1 9 q = t.1 ∧ 0 < t.1 ∧ N.2.2.1 10 q = t.2.1 ∧ N.2.2.1 13 q = t.2.2.1 ∧ (t.2.2.1 = 0 ∨ t.2.2.1 = 1) ∧ N.2.2.1 11 q = t.2.2.2.1 ∧ (¬ t.2.2.2.1 = 0 → N.2.2.1 14 q = t.2.2.2.2) := by
  unfold TI at h
  rw [e] at h
  exact h
theorem TI.no {s : QS} {N : NS} {q : Nat} (h : TI s N q) (e : qT s = none) : N.2.2.1 9 q = 0 := by
  unfold TI at h
  rw [e] at h
  exact h
theorem TI.mk_some {s : QS} {N : NS} {q : Nat} {t : TS} (e : qT s = Option.some t) (h : ¬ kTemp s.1 ∧ N.2.2.1 9 q = t.1 ∧ 0 < t.1 ∧ N.2.2.1 10 q = t.2.1 ∧ N.2.2.1 13 q = t.2.2.1 ∧ (t.2.2.1 = 0 ∨ t.2.2.1 = 1) ∧ N.2.2.1 11 q = t.2.2.2.1 ∧ (¬ t.2.2.2.1 = 0 → N.2.2.1 14 q = t.2.2.2.2)) : TI s N q := by
  unfold TI
  rw [e]
  exact h
theorem TI.mk_none {s : QS} {N : NS} {q : Nat} (e : qT s = Option.none) (h : N.2.2.1 9 q = 0) : TI s N q := by
  unfold TI
  rw [e]
  exact h
theorem Int32.ne_pos {x : Int32} (h : 0 < x) : ¬ x = 0 := by
  intro e; rw [e] at h; exact absurd h (by decide)
/-- queue i's part of the potential, replaced -/
theorem Psi_up {S S' : MS} {i : Nat} {s' : QS} (hi : i < 32) (h : ∀ q, S'.2.1 q = if q = i then s' else S.2.1 q) : Psi S' + wq (S.2.1 i) + S.2.2.1.length + S.2.2.2.2.1.length = Psi S + wq s' + S'.2.2.1.length + S'.2.2.2.2.1.length := by
  unfold Psi
  have := sumQ_up (fun q => wq (S.2.1 q)) i (wq s') 32 hi
  have e : sumQ (fun q => wq (S'.2.1 q)) 32 = sumQ (fun j => if j = i then wq s' else wq (S.2.1 j)) 32 := by
    refine sumQ_congr 32 (fun q _ => ?_)
    rw [h]
    split <;> rfl
  omega
theorem look_sim {c : Nat} {S : MS} {N : NS} (h : SR c S N) {i : Nat} (hi : i < 32) : SR c (lookI S i) (moL N i) := by
  obtain ⟨h1, h2, h3, h4, h5, h6, h7, h8⟩ := id h
  obtain ⟨hK, hT, hI⟩ := h2 i hi
  have hst := h.st hi
  cases ht : qT (S.2.1 i) with
  | none =>
    have e1 : lookI S i = S := lookI_none ht
    have e2 : moL N i = N := by unfold moL; rw [if_pos (hT.no ht)]
    rw [e1, e2]; exact h
  | some t =>
    obtain ⟨t1, t2, t3, t4, t5, t6, t7, t8⟩ := hT.yes ht
    have e1 : lookI S i = addT S (va_up S.2.1 i (setTr (S.2.1 i) (some (lookT t (qS (S.2.1 i)) S.2.2.1.length).1))) (lookT t (qS (S.2.1 i)) S.2.2.1.length).2 := lookI_some ht
    have n9 : ¬ N.2.2.1 9 i = 0 := by rw [t2]; exact Int32.ne_pos t3
    have hw : wq (S.2.1 i) = (S.2.1 i).2.2.1 + stb (some t) (qS (S.2.1 i)) := by unfold wq; rw [ht]
    -- the general shape of the outcome
    have fin : ∀ (t' : TS) (co : Option Int32) (N' : NS), N'.1 1 = N.1 1 → N'.1 3 = N.1 3 → N'.2.1 0 = N.2.1 0 → N'.2.1 2 = N.2.1 2 → N'.2.2.2 = N.2.2.2 → (∀ a, a ≠ 11 → a ≠ 13 → a ≠ 14 → a ≠ 18 → a ≠ 19 → N'.2.2.1 a = N.2.2.1 a) → (∀ a q, q ≠ i → a ≠ 18 → a ≠ 19 → N'.2.2.1 a q = N.2.2.1 a q) → TK (addT S (va_up S.2.1 i (setTr (S.2.1 i) (some t'))) co) N' → (t'.1 = t.1 ∧ t'.2.1 = t.2.1 ∧ N'.2.2.1 13 i = t'.2.2.1 ∧ (t'.2.2.1 = 0 ∨ t'.2.2.1 = 1) ∧ N'.2.2.1 11 i = t'.2.2.2.1 ∧ (¬ t'.2.2.2.1 = 0 → N'.2.2.1 14 i = t'.2.2.2.2)) → (co.toList.length + stb (some t') (qS (S.2.1 i)) ≤ stb (some t) (qS (S.2.1 i))) → SR c (addT S (va_up S.2.1 i (setTr (S.2.1 i) (some t'))) co) N' := by
      intro t' co N' a1 a3 b0 b2 hl hc hq hk htt hps
      have hit : itL N' = itL N := by
        refine itL_congr (fun j => ?_) b0
        unfold rowN
        rw [hc 2 (by decide) (by decide) (by decide) (by decide) (by decide), hc 3 (by decide) (by decide) (by decide) (by decide) (by decide), hc 4 (by decide) (by decide) (by decide) (by decide) (by decide), hl]
      refine ⟨h1.trans a1.symm, fun q hq2 => ?_, ?_, hk, ?_, by rw [hl]; exact h6, ?_, by rw [b0]; exact h8⟩
      · show QA c (va_up S.2.1 i (setTr (S.2.1 i) (some t')) q) N' q
        by_cases hqi : q = i
        · subst hqi
          rw [va_up_self]
          obtain ⟨k1, k2, k3, k4, k5, k6, k7⟩ := hK
          have cc := fun a x1 x2 x3 x4 x5 => hc a x1 x2 x3 x4 x5
          refine ⟨⟨?_, ?_, ?_, ?_, ?_, k6, fun r hr => ?_⟩, ?_, ?_⟩
          · rw [hc 7 (by decide) (by decide) (by decide) (by decide) (by decide)]; exact k1
          · rw [hc 8 (by decide) (by decide) (by decide) (by decide) (by decide)]; exact k2
          · rw [hc 12 (by decide) (by decide) (by decide) (by decide) (by decide)]; exact k3
          · rw [hl]; exact k4
          · rw [hl]; exact k5
          · rw [hc 17 (by decide) (by decide) (by decide) (by decide) (by decide)]; exact k7 r hr
          · refine TI.mk_some (t := t') rfl ⟨t1, ?_, ?_, ?_, htt.2.2⟩
            · rw [hc 9 (by decide) (by decide) (by decide) (by decide) (by decide), htt.1]; exact t2
            · rw [htt.1]; exact t3
            · rw [hc 10 (by decide) (by decide) (by decide) (by decide) (by decide), htt.2.1]; exact t4
          · rw [hit]; exact hI
        · rw [va_up_ne _ _ hqi]
          have hc' := fun a x1 x2 => hq a q hqi x1 x2
          refine (h2 q hq2).congr (hc' 7 (by decide) (by decide)) (hc' 8 (by decide) (by decide)) (hc' 12 (by decide) (by decide)) (by rw [hl]) (by rw [hl]) (fun r _ => by rw [hc 17 (by decide) (by decide) (by decide) (by decide) (by decide)]) (hc' 9 (by decide) (by decide)) (hc' 10 (by decide) (by decide)) (hc' 11 (by decide) (by decide)) (hc' 13 (by decide) (by decide)) (hc' 14 (by decide) (by decide)) (by rw [hit])
      · rw [moQ_it, hit]; exact moQ_it.mp h3
      · obtain ⟨d1, d2, d3, d4, d5⟩ := h5
        have hd : dlL N' = dlL N := dlL_congr b2 (hc 23 (by decide) (by decide) (by decide) (by decide) (by decide)) (hc 24 (by decide) (by decide) (by decide) (by decide) (by decide)) (by rw [hl])
        unfold DL
        rw [hd, a3, b2]
        exact ⟨d1, d2, d3, d4, d5⟩
      · have := Psi_up (S := S) (S' := addT S (va_up S.2.1 i (setTr (S.2.1 i) (some t'))) co) (s' := setTr (S.2.1 i) (some t')) hi (fun q => rfl)
        have hw' : wq (setTr (S.2.1 i) (some t')) = (S.2.1 i).2.2.1 + stb (some t') (qS (S.2.1 i)) := rfl
        have hl1 : (addT S (va_up S.2.1 i (setTr (S.2.1 i) (some t'))) co).2.2.1.length = S.2.2.1.length + co.toList.length := by simp [addT]
        have hl2 : (addT S (va_up S.2.1 i (setTr (S.2.1 i) (some t'))) co).2.2.2.2.1.length = S.2.2.2.2.1.length := rfl
        omega
    have hn : nI (stN N (nI i) (N.2.1 0)) = qS (S.2.1 i) := by rw [hst]
    rw [e1]
    by_cases c1 : qS (S.2.1 i) < t.1
    · have hrd : moRd N i := Or.inr (by rw [hn, t2]; exact c1)
      have e2 : moL N i = sI N 13 i 1 := by
        unfold moL
        rw [if_neg n9, if_neg (fun e => e.2.2 (by rw [hn, t2]; exact c1)), moL1, moRn, if_pos hrd]
      have e3 : lookT t (qS (S.2.1 i)) S.2.2.1.length = ((t.1, t.2.1, 1, t.2.2.2.1, t.2.2.2.2), none) := by unfold lookT; rw [if_pos c1]
      rw [e2, e3]
      refine fin _ _ _ rfl rfl rfl rfl rfl (fun a _ a13 _ _ _ => by simp [sI, va_up, a13]) (fun a q hqi _ _ => by by_cases a13 : a = 13 <;> simp [sI, va_up, a13, hqi]) ?_ ⟨rfl, rfl, by simp [sI, va_up], Or.inr rfl, by simp [sI, va_up]; exact t7, fun e => by simp [sI, va_up]; exact t8 e⟩ ?_
      · obtain ⟨k1, k2, k3⟩ := h4
        refine ⟨by simpa [addT, sI] using k1, fun j x hj => ?_, by simpa [addT, sI] using k3⟩
        have := k2 j x (by simpa [addT] using hj)
        simpa [sI, va_up] using this
      · simp [stb, c1]
    · by_cases c2 : ¬ t.2.2.1 = 0 ∧ t.2.2.2.1 = 0
      · have hrd : moRd N i := Or.inl (by rw [t5]; exact c2.1)
        have hB : moB N i := ⟨hrd, by rw [t7]; exact c2.2, by rw [hn, t2]; exact c1⟩
        have e2 : moL N i = sI (sI (sI (taskS (moL1 N i) (N.2.2.1 10 i)) 11 i (nI (N.2.1 1 + 1))) 14 i 0) 13 i 0 := by
          unfold moL
          rw [if_neg n9, if_pos hB]
        have e3 : lookT t (qS (S.2.1 i)) S.2.2.1.length = ((t.1, t.2.1, 0, nI (S.2.2.1.length + 1), 0), some t.2.1) := by unfold lookT; rw [if_neg c1, if_pos c2]
        rw [e2, e3]
        obtain ⟨k1, k2, k3⟩ := h4
        refine fin _ _ _ (by simp [sI, taskS, sS, sN, moL1, va_up]) (by simp [sI, taskS, sS, sN, moL1, va_up]) (by simp [sI, taskS, sS, sN, moL1, va_up]) (by simp [sI, taskS, sS, sN, moL1, va_up]) rfl (fun a a11 a13 a14 a18 a19 => by simp [sI, taskS, sS, sN, moL1, va_up, a11, a13, a14, a18, a19]) (fun a q hqi a18 a19 => by by_cases a13 : a = 13 <;> by_cases a14 : a = 14 <;> by_cases a11 : a = 11 <;> simp [sI, taskS, sS, sN, moL1, va_up, a11, a13, a14, a18, a19, hqi]) ?_ ⟨rfl, rfl, by simp [sI, va_up], Or.inl rfl, by simp [sI, va_up, k1], fun e => by simp [sI, va_up]⟩ ?_
        · refine ⟨by simp [addT, sI, taskS, sS, sN, moL1, va_up, k1], fun j x hj => ?_, by simp [addT, sI, taskS, sS, sN, moL1, va_up, k3]⟩
          have hj' : (S.2.2.1 ++ [(t.2.1, 1)])[j]? = some x := by simpa [addT] using hj
          by_cases hjl : j < S.2.2.1.length
          · rw [List.getElem?_append_left hjl] at hj'
            have := k2 j x hj'
            have hne : ¬ j = S.2.2.1.length := by omega
            simpa [sI, taskS, sS, sN, moL1, va_up, k1, hne] using this
          · have hje : j = S.2.2.1.length := by
              have := (List.getElem?_eq_some_iff.mp hj').1
              simp at this
              omega
            rw [hje] at hj'
            simp at hj'
            rw [← hj', hje]
            simp [sI, taskS, sS, sN, moL1, va_up, k1, t4]
        · simp [stb, c1, c2]
      · have e3 : lookT t (qS (S.2.1 i)) S.2.2.1.length = (t, none) := by unfold lookT; rw [if_neg c1, if_neg c2]
        have hnr : moRn N i = t.2.2.1 := by
          unfold moRn
          rcases t6 with e | e
          · rw [if_neg (fun hrd => hrd.elim (fun x => x (by rw [t5]; exact e)) (fun x => c1 (by rw [← t2, ← hn]; exact x))), e]
          · rw [if_pos (Or.inl (by rw [t5, e]; decide)), e]
        have e2 : moL N i = sI N 13 i t.2.2.1 := by
          unfold moL
          rw [if_neg n9, if_neg (fun e => c2 ⟨?_, ?_⟩), moL1, hnr]
          · have := e.1.elim id (fun x => absurd (by rw [← t2, ← hn]; exact x) c1)
            rw [t5] at this; exact this
          · rw [← t7]; exact e.2.1
        rw [e2, e3]
        refine fin _ _ _ rfl rfl rfl rfl rfl (fun a _ a13 _ _ _ => by simp [sI, va_up, a13]) (fun a q hqi _ _ => by by_cases a13 : a = 13 <;> simp [sI, va_up, a13, hqi]) ?_ ⟨rfl, rfl, by simp [sI, va_up], t6, by simp [sI, va_up]; exact t7, fun e => by simp [sI, va_up]; exact t8 e⟩ (by simp)
        obtain ⟨k1, k2, k3⟩ := h4
        refine ⟨by simpa [addT, sI] using k1, fun j x hj => ?_, by simpa [addT, sI] using k3⟩
        have := k2 j x (by simpa [addT] using hj)
        simpa [sI, va_up] using this
