/-! DELAYS. -/
def Srd (l : List DS) : Prop := l.Pairwise (fun a b => a.2.2 ≤ b.2.2)
theorem i64_le_trans {a b c : Int64} (h : a ≤ b) (h2 : b ≤ c) : a ≤ c := by
  rw [Int64.le_iff_toInt_le] at *; omega
theorem i64_lt_le {a b c : Int64} (h : a < b) (h2 : b ≤ c) : a < c := by
  rw [Int64.lt_iff_toInt_lt] at *; rw [Int64.le_iff_toInt_le] at h2; omega
theorem i64_le_lt {a b c : Int64} (h : a ≤ b) (h2 : b < c) : a < c := by
  rw [Int64.lt_iff_toInt_lt] at *; rw [Int64.le_iff_toInt_le] at h; omega
theorem i64_lt_le' {a b : Int64} (h : a < b) : a ≤ b := by
  rw [Int64.lt_iff_toInt_lt] at h; rw [Int64.le_iff_toInt_le]; omega
theorem Srd_all {l : List DS} {x : DS} {u : Int64} (h : Srd (x :: l)) (hu : u < x.2.2) : (x :: l).filter (fun y => decide (y.2.2 ≤ u)) = [] ∧ (x :: l).filter (fun y => decide (u < y.2.2)) = x :: l := by
  have hall : ∀ y ∈ x :: l, u < y.2.2 := by
    intro y hy
    rcases List.mem_cons.mp hy with e | e
    · rw [e]; exact hu
    · exact i64_lt_le hu ((List.pairwise_cons.mp h).1 y e)
  refine ⟨List.filter_eq_nil_iff.mpr (fun y hy => ?_), List.filter_eq_self.mpr (fun y hy => ?_)⟩
  · simp only [decide_eq_true_eq]
    exact i64_nle.mpr (hall y hy)
  · simp only [decide_eq_true_eq]
    exact hall y hy
theorem Srd_cut : ∀ {l : List DS} (u : Int64), Srd l → l.filter (fun y => decide (y.2.2 ≤ u)) ++ l.filter (fun y => decide (u < y.2.2)) = l
  | [], _, _ => rfl
  | x :: l, u, h => by
    by_cases hx : x.2.2 ≤ u
    · rw [List.filter_cons_of_pos (by simpa using hx), List.filter_cons_of_neg (by simpa using hx), List.cons_append, Srd_cut u (List.pairwise_cons.mp h).2]
    · obtain ⟨e1, e2⟩ := Srd_all h (i64_nle.mp hx)
      rw [e1, e2]; rfl
theorem insF_srd {l : List DS} (h : Srd l) (d : DS) : Srd (insF l d) := by
  unfold insF Srd
  rw [List.pairwise_append]
  refine ⟨List.Pairwise.filter _ h, List.pairwise_cons.mpr ⟨fun y hy => ?_, List.Pairwise.filter _ h⟩, fun a ha b hb => ?_⟩
  · have := (List.mem_filter.mp hy).2
    simp only [decide_eq_true_eq] at this
    exact i64_lt_le' this
  · have h1 := (List.mem_filter.mp ha).2
    simp only [decide_eq_true_eq] at h1
    rcases List.mem_cons.mp hb with e | e
    · rw [e]; exact h1
    · have h2 := (List.mem_filter.mp e).2
      simp only [decide_eq_true_eq] at h2
      exact i64_le_trans h1 (i64_lt_le' h2)
theorem insF_perm {l : List DS} (h : Srd l) (d : DS) : (insF l d).Perm (d :: l) := by
  unfold insF
  refine (List.perm_middle).trans ?_
  rw [Srd_cut d.2.2 h]
theorem srt_push (l : List DS) (d : DS) : srt (l ++ [d]) = insF (srt l) d := by
  unfold srt
  rw [List.foldl_append]
  rfl
theorem fold_srd (l : List DS) : ∀ a, Srd a → Srd (l.foldl insF a) ∧ (l.foldl insF a).Perm (a ++ l) := by
  induction l with
  | nil => intro a h; exact ⟨h, by simp⟩
  | cons d l ih =>
    intro a h
    obtain ⟨h1, h2⟩ := ih (insF a d) (insF_srd h d)
    refine ⟨h1, h2.trans ?_⟩
    refine ((insF_perm h d).append_right l).trans ?_
    exact (List.perm_middle).symm
theorem srt_srd (l : List DS) : Srd (srt l) := (fold_srd l [] List.Pairwise.nil).1
theorem srt_perm (l : List DS) : (srt l).Perm l := (fold_srd l [] List.Pairwise.nil).2
theorem insF_filter {l : List DS} (h : Srd l) (d : DS) (p : DS → Bool) : (insF l d).filter p = if p d then insF (l.filter p) d else l.filter p := by
  unfold insF
  rw [List.filter_append, List.filter_cons]
  have comm : ∀ q : DS → Bool, (l.filter q).filter p = (l.filter p).filter q := by
    intro q
    rw [List.filter_filter, List.filter_filter]
    congr 1
    funext x
    exact Bool.and_comm _ _
  rw [comm, comm]
  split
  · rfl
  · exact Srd_cut d.2.2 (List.Pairwise.filter _ h)
theorem srt_filter (l : List DS) (p : DS → Bool) : (srt l).filter p = srt (l.filter p) := by
  have : ∀ (l a : List DS), Srd a → (l.foldl insF a).filter p = (l.filter p).foldl insF (a.filter p) := by
    intro l
    induction l with
    | nil => intro a _; rfl
    | cons d l ih =>
      intro a h
      rw [List.foldl_cons, ih _ (insF_srd h d), insF_filter h, List.filter_cons]
      split
      · rfl
      · rfl
  exact this l [] List.Pairwise.nil
theorem kwN_spec (ds : List DS) (u : Int64) : ∀ n, (kwN ds u n = 0 ∨ ((ds[kwN ds u n - 1]?).getD (0, 0, 0)).2.2 ≤ u) ∧ ∀ j, kwN ds u n ≤ j → j < n → ¬ ((ds[j]?).getD (0, 0, 0)).2.2 ≤ u
  | 0 => ⟨Or.inl rfl, fun j _ h => by omega⟩
  | n + 1 => by
    rw [kwN]
    split
    · rename_i h
      exact ⟨Or.inr h, fun j h1 h2 => by omega⟩
    · rename_i h
      obtain ⟨h1, h2⟩ := kwN_spec ds u n
      refine ⟨h1, fun j h3 h4 => ?_⟩
      by_cases e : j = n
      · rw [e]; exact h
      · exact h2 j h3 (by omega)
theorem insD_srd {l : List DS} (h : Srd l) (d : DS) : insD l d = insF l d := by
  obtain ⟨h1, h2⟩ := kwN_spec l d.2.2 l.length
  have hle := kwN_le l d.2.2 l.length
  unfold insD insF
  generalize kwN l d.2.2 l.length = m at h1 h2 hle
  have ht : ∀ x ∈ l.take m, x.2.2 ≤ d.2.2 := by
    intro x hx
    obtain ⟨j, hj, e⟩ := List.mem_iff_getElem.mp hx
    rw [List.length_take] at hj
    have hjm : j < m := by omega
    have hjl : j < l.length := by omega
    rcases h1 with h1 | h1
    · omega
    · have hm1 : m - 1 < l.length := by omega
      rw [List.getElem?_eq_getElem hm1] at h1
      rw [List.getElem_take] at e
      rw [← e]
      by_cases hj2 : j = m - 1
      · subst hj2; exact h1
      · exact i64_le_trans ((List.pairwise_iff_getElem.mp h) j (m - 1) hjl hm1 (by omega)) h1
  have hd : ∀ x ∈ l.drop m, d.2.2 < x.2.2 := by
    intro x hx
    obtain ⟨j, hj, e⟩ := List.mem_iff_getElem.mp hx
    rw [List.length_drop] at hj
    rw [List.getElem_drop] at e
    have hml : m + j < l.length := by omega
    have := h2 (m + j) (by omega) (by omega)
    rw [List.getElem?_eq_getElem hml] at this
    rw [← e]
    exact i64_nle.mp this
  have e1 : l.filter (fun x => decide (x.2.2 ≤ d.2.2)) = l.take m := by
    conv => lhs; rw [← List.take_append_drop m l]
    rw [List.filter_append, List.filter_eq_self.mpr (fun x hx => by simpa using ht x hx), List.filter_eq_nil_iff.mpr (fun x hx => by simpa using i64_nle.mpr (hd x hx))]
    exact List.append_nil _
  have e2 : l.filter (fun x => decide (d.2.2 < x.2.2)) = l.drop m := by
    conv => lhs; rw [← List.take_append_drop m l]
    rw [List.filter_append, List.filter_eq_nil_iff.mpr (fun x hx => by simpa using i64_nlt.mpr (ht x hx)), List.filter_eq_self.mpr (fun x hx => by simpa using hd x hx)]
    rfl
  rw [e1, e2]
/-- the reference's rows of delays -/
def drw (N : NS) (k : Nat) : DS := (N.2.2.1 23 k, N.2.2.1 24 k, N.2.2.2.1 25 k)
theorem dlN_get (N : NS) (n j : Nat) : (dlN N n)[j]? = if j < n then some (drw N j) else none := by
  unfold dlN
  by_cases h : j < n
  · rw [if_pos h, List.getElem?_map, List.getElem?_range h]; rfl
  · rw [if_neg h, List.getElem?_eq_none (by simp; omega)]
theorem drI_row (N : NS) (i j : Nat) : drw (drI N i) j = if j = i then drw N (i + 1) else drw N j := by
  by_cases h : j = i
  · subst h; simp [drI, drw, sI, sL, va_up]
  · simp [drI, drw, sI, sL, va_up, h]
theorem drR_row (N : NS) (k : Nat) : ∀ c j, drw (drR N k c) j = if k ≤ j ∧ j < k + c then drw N (j + 1) else drw N j := by
  intro c
  induction c with
  | zero => intro j; rw [if_neg (by omega)]; rfl
  | succ c ih =>
    intro j
    rw [drR, drI_row, ih, ih]
    by_cases h : j = k + c
    · rw [if_pos h, if_neg (by omega), if_pos (by omega), h]
    · rw [if_neg h]
      by_cases h2 : k ≤ j ∧ j < k + c
      · rw [if_pos h2, if_pos (by omega)]
      · rw [if_neg h2, if_neg (by omega)]
theorem dlL_len (N : NS) : (dlL N).length = N.2.1 2 := dlN_len N _
theorem dlL_cut (N : NS) {k : Nat} (h : k < N.2.1 2) : ∃ A B, dlL N = A ++ drw N k :: B ∧ A.length = k := by
  refine ⟨(dlL N).take k, (dlL N).drop (k + 1), ?_, by rw [List.length_take, dlL_len]; omega⟩
  have h1 : (dlL N)[k]? = some (drw N k) := by unfold dlL; rw [dlN_get, if_pos h]
  have hl : k < (dlL N).length := by rw [dlL_len]; exact h
  conv => lhs; rw [← List.take_append_drop k (dlL N), List.drop_eq_getElem_cons hl]
  rw [List.getElem?_eq_getElem hl] at h1
  rw [Option.some.inj h1]
theorem dlL_rem {N : NS} {A B : List DS} {r : DS} (h : dlL N = A ++ r :: B) : dlL (drS N A.length) = A ++ B := by
  have hn : N.2.1 2 = A.length + (B.length + 1) := by rw [← dlL_len, h]; simp
  apply List.ext_getElem?
  intro j
  unfold dlL
  rw [dlN_get, drS_dl]
  have hr : drw (drS N A.length) j = if A.length ≤ j ∧ j < N.2.1 2 - 1 then drw N (j + 1) else drw N j := by
    unfold drS
    rw [drR_row]
    have e : ∀ j, drw (sN N 2 (N.2.1 2 - 1)) j = drw N j := fun _ => rfl
    rw [e, e]
    by_cases h1 : A.length ≤ j ∧ j < N.2.1 2 - 1
    · rw [if_pos h1, if_pos (by omega)]
    · rw [if_neg h1, if_neg (by omega)]
  have hg : ∀ i, (A ++ r :: B)[i]? = if i < N.2.1 2 then some (drw N i) else none := by
    intro i
    rw [← h]
    exact dlN_get N _ i
  by_cases h1 : j < N.2.1 2 - 1
  · rw [if_pos h1, hr]
    by_cases h2 : A.length ≤ j
    · rw [if_pos ⟨h2, h1⟩]
      have := hg (j + 1)
      rw [if_pos (by omega)] at this
      rw [← this, List.getElem?_append_right (by omega), List.getElem?_append_right h2]
      have e : j + 1 - A.length = (j - A.length) + 1 := by omega
      rw [e]
      rfl
    · rw [if_neg (fun e => h2 e.1)]
      have := hg j
      rw [if_pos (by omega)] at this
      rw [← this, List.getElem?_append_left (by omega), List.getElem?_append_left (by omega)]
  · rw [if_neg h1, List.getElem?_eq_none (by simp; omega)]
theorem drR_o (N : NS) (k : Nat) : ∀ c, (drR N k c).1 = N.1 ∧ (∀ a, a ≠ 23 → a ≠ 24 → (drR N k c).2.2.1 a = N.2.2.1 a) ∧ (∀ a, a ≠ 25 → (drR N k c).2.2.2.1 a = N.2.2.2.1 a) ∧ (drR N k c).2.2.2.2 = N.2.2.2.2
  | 0 => ⟨rfl, fun _ _ _ => rfl, fun _ _ => rfl, rfl⟩
  | c + 1 => by
    obtain ⟨h1, h2, h3, h4⟩ := drR_o N k c
    refine ⟨h1, fun a a2 a3 => ?_, fun a a5 => ?_, h4⟩
    · rw [← h2 a a2 a3]; simp [drR, drI, sI, sL, va_up, a2, a3]
    · rw [← h3 a a5]; simp [drR, drI, sI, sL, va_up, a5]
theorem drS_o (N : NS) (k : Nat) : (drS N k).1 = N.1 ∧ (∀ a, a ≠ 23 → a ≠ 24 → (drS N k).2.2.1 a = N.2.2.1 a) ∧ (∀ a, a ≠ 25 → (drS N k).2.2.2.1 a = N.2.2.2.1 a) ∧ (drS N k).2.2.2.2 = N.2.2.2.2 := drR_o (sN N 2 (N.2.1 2 - 1)) k (N.2.1 2 - 1 - k)
theorem nod_cut {l A B : List DS} {x : DS} (h : (l.map (fun x => x.1)).Nodup) (e : l = A ++ x :: B) : l.filter (fun y => decide (¬ y.1 = x.1)) = A ++ B := by
  rw [e, List.map_append, List.map_cons] at h
  have hn := List.nodup_append.mp h
  have hB := List.nodup_cons.mp hn.2.1
  rw [e, List.filter_append, List.filter_cons_of_neg (by simp)]
  rw [List.filter_eq_self.mpr (fun y hy => ?_), List.filter_eq_self.mpr (fun y hy => ?_)]
  · have : ¬ y.1 = x.1 := fun w => hB.1 (w ▸ List.mem_map_of_mem hy)
    simpa using this
  · have : ¬ y.1 = x.1 := fun w => hn.2.2 y.1 (List.mem_map_of_mem hy) x.1 (List.mem_cons_self ..) w
    simpa using this
theorem insF_head {l : List DS} (h : Srd l) (d : DS) : (insF l d).head? = match l.head? with
  | none => some d
  | some x => if x.2.2 ≤ d.2.2 then some x else some d := by
  cases l with
  | nil => rfl
  | cons x l =>
    show (insF (x :: l) d).head? = if x.2.2 ≤ d.2.2 then some x else some d
    unfold insF
    by_cases hx : x.2.2 ≤ d.2.2
    · rw [if_pos hx, List.filter_cons_of_pos (by simpa using hx)]; rfl
    · rw [if_neg hx, (Srd_all h (i64_nle.mp hx)).1]; rfl
/-- the first delay that is due is the head of the ordered list -/
theorem fiN_spec (N : NS) : ∀ n, (fiN N n = none → ∀ x, (srt (dlN N n)).head? = some x → N.2.2.2.2 < x.2.2) ∧ (∀ k, fiN N n = some k → (srt (dlN N n)).head? = some (drw N k) ∧ (drw N k).2.2 ≤ N.2.2.2.2)
  | 0 => ⟨fun _ x h => (by cases h), fun k h => (by cases h)⟩
  | n + 1 => by
    obtain ⟨h1, h2⟩ := fiN_spec N n
    have hs : srt (dlN N (n + 1)) = insF (srt (dlN N n)) (drw N n) := by rw [dlN_succ, srt_push]; rfl
    have hh := insF_head (srt_srd (dlN N n)) (drw N n)
    rw [hs]
    have hd : (drw N n).2.2 = N.2.2.2.1 25 n := rfl
    rw [fiN]
    cases hf : fiN N n with
    | none =>
      have g1 := h1 hf
      by_cases a : N.2.2.2.1 25 n ≤ N.2.2.2.2
      · rw [if_pos ⟨a, fun f e => by cases e⟩]
        refine ⟨fun e => (by cases e), fun k e => ?_⟩
        cases e
        refine ⟨?_, a⟩
        rw [hh]
        cases hx : (srt (dlN N n)).head? with
        | none => rfl
        | some x =>
          have := g1 x hx
          show (if x.2.2 ≤ (drw N n).2.2 then some x else some (drw N n)) = _
          exact if_neg (i64_nle.mpr (i64_le_lt a this))
      · rw [if_neg (fun e => a e.1)]
        refine ⟨fun _ x e => ?_, fun k e => (by cases e)⟩
        rw [hh] at e
        cases hx : (srt (dlN N n)).head? with
        | none =>
          rw [hx] at e
          cases e
          exact i64_nle.mp a
        | some y =>
          rw [hx] at e
          have e' : (if y.2.2 ≤ (drw N n).2.2 then some y else some (drw N n)) = some x := e
          split at e'
          · cases e'; exact g1 _ hx
          · cases e'; exact i64_nle.mp a
    | some f =>
      obtain ⟨g1, g2⟩ := h2 f hf
      rw [g1] at hh
      have hh' : (insF (srt (dlN N n)) (drw N n)).head? = if (drw N f).2.2 ≤ (drw N n).2.2 then some (drw N f) else some (drw N n) := hh
      by_cases a : N.2.2.2.1 25 n ≤ N.2.2.2.2 ∧ N.2.2.2.1 25 n < N.2.2.2.1 25 f
      · rw [if_pos ⟨a.1, fun f' e => by cases e; exact a.2⟩]
        refine ⟨fun e => (by cases e), fun k e => ?_⟩
        cases e
        rw [hh']
        exact ⟨if_neg (i64_nle.mpr a.2), a.1⟩
      · rw [if_neg (fun e => a ⟨e.1, e.2 f rfl⟩)]
        refine ⟨fun e => (by cases e), fun k e => ?_⟩
        cases e
        have hle : (drw N f).2.2 ≤ (drw N n).2.2 := by
          by_cases b : N.2.2.2.1 25 n ≤ N.2.2.2.2
          · exact i64_nlt.mp (fun w => a ⟨b, w⟩)
          · exact i64_lt_le' (i64_le_lt g2 (i64_nle.mp b))
        rw [hh', if_pos hle]
        exact ⟨rfl, g2⟩
