theorem lookN_sim {c : Nat} {S : MS} {N : NS} (h : SR c S N) : ∀ n, n ≤ 32 → SR c (lookN S n) (moLk N n)
  | 0, _ => by rw [moLk_zero]; exact h
  | n + 1, hn => by rw [moLk_succ]; exact look_sim (lookN_sim h n (by omega)) (by omega)
theorem lookI_ne (S : MS) {i q : Nat} (h : q ≠ i) : (lookI S i).2.1 q = S.2.1 q := by
  cases ht : qT (S.2.1 i) with
  | none => rw [lookI_none ht]
  | some t => rw [lookI_some ht]; exact va_up_ne _ _ h
theorem lookI_sed (S : MS) (i : Nat) : sed ((lookI S i).2.1 i) := by
  cases ht : qT (S.2.1 i) with
  | none => rw [lookI_none ht]; intro t e; rw [ht] at e; cases e
  | some t =>
    rw [lookI_some ht]
    show sed (va_up S.2.1 i (setTr (S.2.1 i) (some (lookT t (qS (S.2.1 i)) S.2.2.1.length).1)) i)
    rw [va_up_self]
    intro t' e
    cases e
    show (qS (S.2.1 i) < _ → _) ∧ (¬ qS (S.2.1 i) < _ → _)
    unfold lookT
    by_cases c1 : qS (S.2.1 i) < t.1
    · rw [if_pos c1]; exact ⟨fun _ => rfl, fun h => absurd c1 h⟩
    · rw [if_neg c1]
      by_cases c2 : ¬ t.2.2.1 = 0 ∧ t.2.2.2.1 = 0
      · rw [if_pos c2]; exact ⟨fun h => absurd h c1, fun _ h => h.1 rfl⟩
      · rw [if_neg c2]; exact ⟨fun h => absurd h c1, fun _ => c2⟩
theorem lookN_ge (S : MS) : ∀ n q, n ≤ q → (lookN S n).2.1 q = S.2.1 q
  | 0, _, _ => rfl
  | n + 1, q, h => by rw [lookN, lookI_ne _ (by omega)]; exact lookN_ge S n q (by omega)
theorem lookN_sed (S : MS) : ∀ n q, q < n → sed ((lookN S n).2.1 q)
  | 0, _, h => by omega
  | n + 1, q, h => by
    rw [lookN]
    by_cases e : q = n
    · rw [e]; exact lookI_sed _ _
    · rw [lookI_ne _ e]; exact lookN_sed S n q (by omega)
theorem lookN_stl (S : MS) : Stl (lookN S 32) := fun q hq => lookN_sed S 32 q hq
theorem va_up_id {α : Type} (f : Nat → α) (i : Nat) : va_up f i (f i) = f := by
  funext j
  unfold va_up
  split
  · rename_i e; rw [e]
  · rfl
theorem lookI_id {S : MS} {i : Nat} (h : sed (S.2.1 i)) : lookI S i = S := by
  cases ht : qT (S.2.1 i) with
  | none => exact lookI_none ht
  | some t =>
    obtain ⟨h1, h2⟩ := h t ht
    rw [lookI_some ht]
    have e : lookT t (qS (S.2.1 i)) S.2.2.1.length = (t, none) := by
      unfold lookT
      by_cases c1 : qS (S.2.1 i) < t.1
      · rw [if_pos c1, ← h1 c1]
      · rw [if_neg c1, if_neg (h2 c1)]
    rw [e]
    have e2 : setTr (S.2.1 i) (some t) = S.2.1 i := by rw [← ht]; rfl
    show addT S (va_up S.2.1 i (setTr (S.2.1 i) (some t))) none = S
    rw [e2, va_up_id]
    simp [addT]
theorem lookN_id {S : MS} (h : Stl S) : ∀ n, n ≤ 32 → lookN S n = S
  | 0, _ => rfl
  | n + 1, hn => by rw [lookN, lookN_id h n (by omega)]; exact lookI_id (h n (by omega))
theorem SR.code {c : Nat} {S : MS} {N : NS} (h : SR c S N) (v : Int32) : SR c S (sS N 0 v) := h
theorem SR.look {c : Nat} {S : MS} {N : NS} (h : SR c S N) : SI c (lookN S 32) (ansS N) := ⟨lookN_sim (h.code 0) 32 (Nat.le_refl _), lookN_stl S⟩
theorem SR.keep {c : Nat} {S : MS} {N : NS} (h : SR c S N) (hs : Stl S) : SI c S (ansS N) := by
  have := h.look
  rw [lookN_id hs 32 (Nat.le_refl _)] at this
  exact this
theorem SI.mono {c c' : Nat} {S : MS} {N : NS} (h : SI c S N) (hc : c ≤ c') : SI c' S N := ⟨h.1.mono hc, h.2⟩
theorem SI.keep {c : Nat} {S : MS} {N : NS} (h : SI c S N) : SI (c + 1) S (ansS N) := (h.1.mono (Nat.le_succ _)).keep h.2
theorem tot_sum (S : MS) : ∀ n, tot S n = sumQ (fun q => (S.2.1 q).2.1.length) n
  | 0 => rfl
  | n + 1 => by rw [tot, sumQ, tot_sum S n]
theorem SR.tot {c : Nat} {S : MS} {N : NS} (h : SR c S N) : tot S 32 = N.2.1 0 := by
  rw [tot_sum, ← itL_len, ← countP_true (itL N), ← sumQ_fq _ (itL N) (moQ_it.mp h.2.2.1)]
  refine sumQ_congr 32 (fun q hq => ?_)
  rw [countP_true]
  exact ((h.2.1 q hq).2.2.len).symm
theorem SR.len {c : Nat} {S : MS} {N : NS} (h : SR c S N) {q : Nat} (hq : q < 32) : (S.2.1 q).2.1.length ≤ c := by
  have := sumQ_one (fun q => (S.2.1 q).2.1.length) 32 q hq
  rw [← tot_sum, h.tot] at this
  exact Nat.le_trans this h.2.2.2.2.2.2.2
theorem SR.tasks {c : Nat} {S : MS} {N : NS} (h : SR c S N) : S.2.2.1.length + S.2.2.2.2.1.length ≤ c := by
  have := h.2.2.2.2.2.2.1
  unfold Psi at this
  omega
theorem SR.mn {c : Nat} {S : MS} {N : NS} (h : SR c S N) {q : Nat} (hq : q < 32) : mnN N (nI q) (N.2.1 0) = (S.2.1 q).2.1.length := by
  rw [mnN_F]; exact (h.2.1 q hq).2.2.len
theorem lk_app (l l' : List Rw) (h : ∀ r ∈ l', r.2.2.1 ≤ 0) : lkL (l ++ l') = lkL l := by
  unfold lkL
  rw [List.foldl_append]
  generalize l.foldl (fun a r => if ¬ r.2.2.1 ≤ 0 then r.2.2.1 else a) 0 = a
  induction l' generalizing a with
  | nil => rfl
  | cons r l' ih =>
    rw [List.foldl_cons, if_neg (not_not_intro (h r (List.mem_cons_self ..)))]
    exact ih (fun x hx => h x (List.mem_cons_of_mem _ hx)) a
theorem lkU (l : List Rw) : lkL l = (l.map (fun r => r.2.2.1)).foldl (fun a r => if ¬ r ≤ 0 then r else a) 0 := by
  unfold lkL
  rw [List.foldl_map]
theorem rep_z (n : Nat) (a : Int32) : (List.replicate n (0 : Int32)).foldl (fun a r => if ¬ r ≤ 0 then r else a) a = a := by
  induction n with
  | zero => rfl
  | succ n ih => rw [List.replicate_succ, List.foldl_cons, if_neg (by decide)]; exact ih
theorem rep_h (n : Nat) {h : Int32} (hh : ¬ h ≤ 0) : ∀ a, (List.replicate (n + 1) h).foldl (fun a r => if ¬ r ≤ 0 then r else a) a = h := by
  induction n with
  | zero => intro a; show (if ¬ h ≤ 0 then h else a) = h; rw [if_pos hh]
  | succ n ih => intro a; rw [List.replicate_succ, List.foldl_cons]; exact ih _
theorem II.lk {c : Nat} {s : QS} {l : List Rw} (h : II c s l) : lkL l = if s.2.2.1 = 0 then 0 else s.2.2.2.1 := by
  obtain ⟨h1, h2, h3, h4, -⟩ := h
  rw [lkU, h2, List.foldl_append, rep_z]
  by_cases hp : s.2.2.1 = 0
  · rw [if_pos hp, hp]; rfl
  · rw [if_neg hp]
    obtain ⟨n, hn⟩ := Nat.exists_eq_succ_of_ne_zero hp
    rw [hn]
    exact rep_h n (h4 hp).1 0
theorem SR.lk {c : Nat} {S : MS} {N : NS} (h : SR c S N) {q : Nat} (hq : q < 32) : lkN N (nI q) (N.2.1 0) = if (S.2.1 q).2.2.1 = 0 then 0 else (S.2.1 q).2.2.2.1 := by
  rw [lkN_F]; exact (h.2.1 q hq).2.2.lk
theorem II.temp {c : Nat} {s : QS} {l : List Rw} (h : II c s l) : kTemp s.1 ↔ (s.1 = 0 ∨ s.1 = 1) := by
  rcases h.2.2.2.2.1 with ⟨e, -⟩ | ⟨e | e | e | e, -⟩ <;> rw [e] <;> decide
theorem II.trans {c : Nat} {s : QS} {l : List Rw} (h : II c s l) : kTrans s.1 ↔ ¬ s.1 ≤ 1 := by
  rcases h.2.2.2.2.1 with ⟨e, -⟩ | ⟨e | e | e | e, -⟩ <;> rw [e] <;> decide
/-- queue i alone changes; nothing else does but the time of the potential -/
theorem SR.upQ {c c' : Nat} {S : MS} {N N' : NS} (h : SR c S N) {i : Nat} (hi : i < 32) {s' : QS} (hc : c ≤ c') (hA : QA c' s' N' i) (ho : ∀ q, q < 32 → q ≠ i → QA c (S.2.1 q) N' q) (e1 : N'.1 1 = N.1 1) (e2 : N'.1 2 = N.1 2) (e3 : N'.1 3 = N.1 3) (f1 : N'.2.1 1 = N.2.1 1) (f2 : N'.2.1 2 = N.2.1 2) (g18 : N'.2.2.1 18 = N.2.2.1 18) (g19 : N'.2.2.1 19 = N.2.2.1 19) (g23 : N'.2.2.1 23 = N.2.2.1 23) (g24 : N'.2.2.1 24 = N.2.2.1 24) (g25 : N'.2.2.2.1 25 = N.2.2.2.1 25) (et : N'.2.2.2.2 = N.2.2.2.2) (hm : moQ N') (hw : wq s' + c ≤ wq (S.2.1 i) + c') (h0 : N'.2.1 0 ≤ c') : SR c' (S.1, va_up S.2.1 i s', S.2.2) N' := by
  obtain ⟨h1, h2, h3, h4, h5, h6, h7, h8⟩ := h
  refine ⟨h1.trans e1.symm, fun q hq => ?_, hm, ?_, ?_, h6.trans et.symm, ?_, h0⟩
  · show QA c' (va_up S.2.1 i s' q) N' q
    by_cases hqi : q = i
    · subst hqi; rw [va_up_self]; exact hA
    · rw [va_up_ne _ _ hqi]; exact (ho q hq hqi).mono hc
  · obtain ⟨k1, k2, k3⟩ := h4
    exact ⟨f1.trans k1, fun j x hj => by rw [g18, g19]; exact k2 j x hj, k3.trans e2.symm⟩
  · have := h5.mono hc
    unfold DL at this ⊢
    rw [dlL_congr f2 g23 g24 g25, e3, f2]
    exact this
  · have := Psi_up (S := S) (S' := (S.1, va_up S.2.1 i s', S.2.2)) (s' := s') hi (fun q => rfl)
    have e : ((S.1, va_up S.2.1 i s', S.2.2) : MS).2.2 = S.2.2 := rfl
    rw [e] at this
    omega
