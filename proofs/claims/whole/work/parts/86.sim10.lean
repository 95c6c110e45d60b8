def DLw (c : Nat) (S : MS) (N : NS) : Prop := S.2.2.2.2.1 = srt (dlL N) ∧ N.2.1 2 ≤ 200 ∧ S.2.2.2.2.2.1 = N.1 3 ∧ (∃ d, N.1 3 = nI d ∧ d ≤ c ∧ ∀ x ∈ dlL N, ∃ m, m ≤ d ∧ x.1 = nI m) ∧ ((dlL N).map (fun x => x.1)).Nodup
def SRw (c : Nat) (S : MS) (N : NS) : Prop := S.1 = N.1 1 ∧ (∀ q, q < 32 → QA c (S.2.1 q) N q) ∧ moQ N ∧ TK S N ∧ DLw c S N ∧ S.2.2.2.2.2.2 = N.2.2.2.2 ∧ Psi S ≤ c ∧ N.2.1 0 ≤ c
theorem SR.weak {c : Nat} {S : MS} {N : NS} (h : SR c S N) : SRw c S N := by
  obtain ⟨h1, h2, h3, h4, ⟨d1, d2, d3, d4, d5, d6⟩, h6, h7, h8⟩ := h
  exact ⟨h1, h2, h3, h4, ⟨d1, d2, d3, d4, d5⟩, h6, h7, h8⟩
theorem SRw.full {c : Nat} {S : MS} {N : NS} (h : SRw c S N) (hw : ∀ x ∈ dlL N, S.2.2.2.2.2.2 < x.2.2) : SR c S N := by
  obtain ⟨h1, h2, h3, h4, ⟨d1, d2, d3, d4, d5⟩, h6, h7, h8⟩ := h
  exact ⟨h1, h2, h3, h4, ⟨d1, d2, d3, d4, d5, hw⟩, h6, h7, h8⟩
theorem taskS_o (N : NS) (c : Int32) : (∀ a, a ≠ 18 → a ≠ 19 → (taskS N c).2.2.1 a = N.2.2.1 a) ∧ (taskS N c).2.2.2 = N.2.2.2 ∧ (∀ a, a ≠ 1 → (taskS N c).2.1 a = N.2.1 a) ∧ (∀ a, a ≠ 2 → (taskS N c).1 a = N.1 a) ∧ (taskS N c).1 2 = N.1 2 + 1 := by
  refine ⟨fun a a1 a2 => by simp [taskS, sS, sN, sI, va_up, a1, a2], rfl, fun a a1 => by simp [taskS, sS, sN, sI, va_up, a1], fun a a1 => by simp [taskS, sS, sN, sI, va_up, a1], by simp [taskS, sS, sN, sI, va_up]⟩
theorem TK.task {S S' : MS} {N N' : NS} {c : Int32} (h : TK S N) (e1 : S'.2.2.1 = S.2.2.1 ++ [(c, 1)]) (e2 : S'.2.2.2.1 = S.2.2.2.1 + 1) (f1 : N'.2.1 1 = N.2.1 1 + 1) (f2 : N'.2.2.1 18 = va_up (N.2.2.1 18) (N.2.1 1) c) (f3 : N'.2.2.1 19 = va_up (N.2.2.1 19) (N.2.1 1) 1) (f4 : N'.1 2 = N.1 2 + 1) : TK S' N' := by
  obtain ⟨k1, k2, k3⟩ := h
  refine ⟨by rw [f1, e1, k1]; simp, fun j x hj => ?_, by rw [e2, f4, k3]⟩
  rw [e1] at hj
  rw [f2, f3]
  by_cases hjl : j < S.2.2.1.length
  · rw [List.getElem?_append_left hjl] at hj
    have hne : ¬ j = N.2.1 1 := by omega
    rw [va_up_ne _ _ hne, va_up_ne _ _ hne]
    exact k2 j x hj
  · have hje : j = S.2.2.1.length := by
      have := (List.getElem?_eq_some_iff.mp hj).1
      simp at this
      omega
    rw [hje] at hj
    simp at hj
    rw [← hj, hje, k1, va_up_self, va_up_self]
    exact ⟨rfl, rfl⟩
theorem post_sim {c : Nat} {S : MS} {N : NS} (h : SRw c S N) {A B xs : List DS} {x : DS} (e : dlL N = A ++ x :: B) (es : S.2.2.2.2.1 = x :: xs) : SRw c (pdS S x xs) (drS (taskS N x.2.1) A.length) := by
  obtain ⟨h1, h2, h3, h4, ⟨d1, d2, d3, ⟨d, d4a, d4b, d4c⟩, d5⟩, h6, h7, h8⟩ := h
  obtain ⟨t1, t2, t3, t4, t5⟩ := taskS_o N x.2.1
  obtain ⟨o1, o2, o3, o4⟩ := drS_o (taskS N x.2.1) A.length
  have hdt : dlL (taskS N x.2.1) = A ++ x :: B := by
    rw [← e]
    exact dlL_congr (t3 2 (by decide)) (t1 23 (by decide) (by decide)) (t1 24 (by decide) (by decide)) (by rw [t2])
  have hdl := dlL_rem hdt
  have cc : ∀ a, a ≠ 18 → a ≠ 19 → a ≠ 23 → a ≠ 24 → (drS (taskS N x.2.1) A.length).2.2.1 a = N.2.2.1 a := by
    intro a a1 a2 a3 a4
    rw [o2 a a3 a4, t1 a a1 a2]
  have cl : ∀ a, a ≠ 25 → (drS (taskS N x.2.1) A.length).2.2.2.1 a = N.2.2.2.1 a := by
    intro a a1
    rw [o3 a a1, t2]
  have n0 : (drS (taskS N x.2.1) A.length).2.1 0 = N.2.1 0 := by rw [drS_nn _ _ _ (by decide), t3 0 (by decide)]
  have hit : itL (drS (taskS N x.2.1) A.length) = itL N := by
    refine itL_congr (fun j => ?_) n0
    unfold rowN
    rw [cc 2 (by decide) (by decide) (by decide) (by decide), cc 3 (by decide) (by decide) (by decide) (by decide), cc 4 (by decide) (by decide) (by decide) (by decide), cl 5 (by decide)]
  have hnd : ((srt (dlL N)).map (fun x => x.1)).Nodup := ((srt_perm (dlL N)).map _).nodup_iff.mpr d5
  have hf : (dlL N).filter (fun y => decide (¬ y.1 = x.1)) = A ++ B := nod_cut d5 e
  have hxs : xs = srt (A ++ B) := by
    rw [← hf, ← srt_filter]
    have : srt (dlL N) = [] ++ x :: xs := by rw [← d1, es]; rfl
    exact (nod_cut hnd this).symm
  refine ⟨?_, fun q hq => ?_, ?_, ?_, ⟨?_, ?_, ?_, ⟨d, ?_, d4b, ?_⟩, ?_⟩, ?_, ?_, ?_⟩
  · rw [o1, t4 1 (by decide)]; exact h1
  · refine (h2 q hq).congr ?_ ?_ ?_ ?_ ?_ ?_ ?_ ?_ ?_ ?_ ?_ (by rw [hit])
    · rw [cc 7 (by decide) (by decide) (by decide) (by decide)]
    · rw [cc 8 (by decide) (by decide) (by decide) (by decide)]
    · rw [cc 12 (by decide) (by decide) (by decide) (by decide)]
    · rw [cl 15 (by decide)]
    · rw [cl 16 (by decide)]
    · intro r _; rw [cc 17 (by decide) (by decide) (by decide) (by decide)]
    · rw [cc 9 (by decide) (by decide) (by decide) (by decide)]
    · rw [cc 10 (by decide) (by decide) (by decide) (by decide)]
    · rw [cc 11 (by decide) (by decide) (by decide) (by decide)]
    · rw [cc 13 (by decide) (by decide) (by decide) (by decide)]
    · rw [cc 14 (by decide) (by decide) (by decide) (by decide)]
  · rw [moQ_it, hit]; exact moQ_it.mp h3
  · refine h4.task (c := x.2.1) rfl rfl ?_ ?_ ?_ ?_
    · rw [drS_nn _ _ _ (by decide), taskS_bg]
    · rw [o2 18 (by decide) (by decide)]; simp [taskS, sS, sN, sI, va_up]
    · rw [o2 19 (by decide) (by decide)]; simp [taskS, sS, sN, sI, va_up]
    · rw [o1, t5]
  · show xs = _
    rw [hdl]; exact hxs
  · rw [drS_dl, t3 2 (by decide)]; omega
  · show S.2.2.2.2.2.1 = _
    rw [o1, t4 3 (by decide)]; exact d3
  · rw [o1, t4 3 (by decide)]; exact d4a
  · rw [hdl]
    intro y hy
    refine d4c y ?_
    rw [e]
    rcases List.mem_append.mp hy with w | w
    · exact List.mem_append_left _ w
    · exact List.mem_append_right _ (List.mem_cons_of_mem _ w)
  · rw [hdl, ← hf]
    exact (List.Sublist.map _ List.filter_sublist).nodup d5
  · show S.2.2.2.2.2.2 = _
    rw [o4, t2]; exact h6
  · have : Psi (pdS S x xs) = Psi S := by
      unfold Psi
      show (S.2.2.1 ++ [(x.2.1, 1)]).length + xs.length + _ = S.2.2.1.length + S.2.2.2.2.1.length + _
      rw [es]
      simp only [List.length_append, List.length_cons, List.length_nil]
      have : ∀ q, (pdS S x xs).2.1 q = S.2.1 q := fun _ => rfl
      simp only [this]
      omega
    rw [this]; exact h7
  · rw [n0]; exact h8
theorem srt_nil : srt [] = [] := rfl
theorem pd_sim {c : Nat} : ∀ (n : Nat) (S : MS) (N : NS), N.2.1 2 = n → SRw c S N → ∀ f d, n ≤ f → n < d → (pdN S f).1 = (tiN N d).1 ∧ SR c (pdN S f).2 (tiN N d).2 ∧ (pdN S f).2.2.1 = S.2.1 := by
  intro n
  induction n with
  | zero =>
    intro S N hn h f d hf hd
    have hl : dlL N = [] := List.length_eq_zero_iff.mp (by rw [dlL_len]; exact hn)
    have hs : S.2.2.2.2.1 = [] := by rw [h.2.2.2.2.1.1, hl]; rfl
    have e1 : pdN S f = (0, S) := by
      cases f with
      | zero => rfl
      | succ f => exact pdN_nil f hs
    have e2 : tiN N d = (0, N) := by
      obtain ⟨d', rfl⟩ := Nat.exists_eq_succ_of_ne_zero (n := d) (by omega)
      exact tiN_none N d' (by rw [hn]; rfl)
    rw [e1, e2]
    exact ⟨rfl, h.full (fun x hx => by rw [hl] at hx; cases hx), rfl⟩
  | succ n ih =>
    intro S N hn h f d hf hd
    obtain ⟨f', rfl⟩ := Nat.exists_eq_succ_of_ne_zero (n := f) (by omega)
    obtain ⟨d', rfl⟩ := Nat.exists_eq_succ_of_ne_zero (n := d) (by omega)
    have hds := h.2.2.2.2.1.1
    have hnow := h.2.2.2.2.2.1
    obtain ⟨g1, g2⟩ := fiN_spec N (N.2.1 2)
    have hlen : (srt (dlL N)).length = n + 1 := by rw [(srt_perm _).length_eq, dlL_len, hn]
    cases hx : srt (dlL N) with
    | nil => rw [hx] at hlen; cases hlen
    | cons x xs =>
      have hhd : (srt (dlN N (N.2.1 2))).head? = some x := by
        show (srt (dlL N)).head? = some x
        rw [hx]; rfl
      have hS : S.2.2.2.2.1 = x :: xs := by rw [hds, hx]
      cases hfi : fiN N (N.2.1 2) with
      | none =>
        have hlt := g1 hfi x hhd
        rw [← hnow] at hlt
        rw [pdN_no f' hS hlt, tiN_none N d' hfi]
        refine ⟨rfl, h.full (fun y hy => ?_), rfl⟩
        have hy' : y ∈ srt (dlL N) := (srt_perm _).mem_iff.mpr hy
        have hsr := srt_srd (dlL N)
        rw [hx] at hy' hsr
        rcases List.mem_cons.mp hy' with w | w
        · rw [w]; exact hlt
        · exact i64_lt_le hlt ((List.pairwise_cons.mp hsr).1 y w)
      | some k =>
        obtain ⟨p1, p2⟩ := g2 k hfi
        have hxk : x = drw N k := by rw [p1] at hhd; exact (Option.some.inj hhd).symm
        have hk := fiN_lt N _ _ hfi
        obtain ⟨A, B, e1, e2⟩ := dlL_cut N hk
        rw [← hxk] at e1
        have hnl : ¬ S.2.2.2.2.2.2 < x.2.2 := by
          rw [hnow, hxk]; exact i64_nlt.mpr p2
        have hps := post_sim h e1 hS
        rw [e2] at hps
        have hcode : N.2.2.1 24 k = x.2.1 := by rw [hxk]; rfl
        rw [pdN_yes f' hS hnl, tiN_some N d' hfi, hcode]
        have hn' : (drS (taskS N x.2.1) k).2.1 2 = n := by
          rw [drS_dl, (taskS_o N x.2.1).2.2.1 2 (by decide)]; omega
        obtain ⟨i1, i2, i3⟩ := ih _ _ hn' hps f' d' (by omega) (by omega)
        exact ⟨by rw [i1], i2, i3⟩
theorem tick_sim {c : Nat} {S : MS} {N : NS} (h : SI c S N) (t : Int64) : (ticI S t).1 = (tiM N t).1 ∧ SI (c + 1) (ticI S t).2 (ansS (tiM N t).2) := by
  obtain ⟨hR, hS⟩ := id h
  have hnow := hR.2.2.2.2.2.1
  unfold ticI tiM
  by_cases a : t < S.2.2.2.2.2.2
  · rw [if_pos a, if_pos (by rw [← hnow]; exact a)]
    exact ⟨rfl, h.keep⟩
  rw [if_neg a, if_neg (by rw [← hnow]; exact a)]
  have hw : SRw c (ticS S t) (sW N t) := by
    obtain ⟨h1, h2, h3, h4, h5, h6, h7, h8⟩ := hR.weak
    exact ⟨h1, fun q hq => (h2 q hq).congr rfl rfl rfl rfl rfl (fun _ _ => rfl) rfl rfl rfl rfl rfl rfl, h3, h4, h5, rfl, h7, h8⟩
  obtain ⟨i1, i2, i3⟩ := pd_sim (N.2.1 2) (ticS S t) (sW N t) rfl hw 200 (N.2.1 2 + 1) hR.2.2.2.2.1.2.1 (Nat.lt_succ_self _)
  refine ⟨by rw [i1], ?_⟩
  dsimp only
  refine (i2.mono (Nat.le_succ c)).keep (fun q hq => ?_)
  rw [i3]
  exact hS q hq
theorem pdN_stop {S : MS} (f : Nat) (h : ∀ x ∈ S.2.2.2.2.1, S.2.2.2.2.2.2 < x.2.2) : pdN S f = (0, S) := by
  cases f with
  | zero => rfl
  | succ f =>
    cases hd : S.2.2.2.2.1 with
    | nil => exact pdN_nil f hd
    | cons x xs => exact pdN_no f hd (h x (by rw [hd]; exact List.mem_cons_self ..))
theorem delay_sim {c : Nat} {S : MS} {N : NS} (h : SI c S N) (hc : c < 600) (d : Int32) (u : Int64) : (delI S d u).1 = (deM N d u).1 ∧ SI (c + 1) (delI S d u).2 (ansS (deM N d u).2) := by
  obtain ⟨hR, hS⟩ := id h
  have hnow := hR.2.2.2.2.2.1
  have hwait := hR.2.2.2.2.1.2.2.2.2.2
  obtain ⟨h1, h2, h3, h4, ⟨d1, d2, d3, ⟨n, d4a, d4b, d4c⟩, d5, d6⟩, h6, h7, h8⟩ := id hR
  have hlen : S.2.2.2.2.1.length = N.2.1 2 := by rw [d1, (srt_perm _).length_eq, dlL_len]
  have hmem : ∀ x, x ∈ S.2.2.2.2.1 ↔ x ∈ dlL N := fun x => by rw [d1]; exact (srt_perm _).mem_iff
  have hsrd : Srd S.2.2.2.2.1 := by rw [d1]; exact srt_srd _
  unfold delI deM
  have e200 : (¬ nI S.2.2.2.2.1.length < 200) ↔ N.2.1 2 = 200 := by
    rw [hlen]
    have e : (200 : Int32) = nI 200 := rfl
    rw [e, nI_ltI (by omega) (by omega)]
    omega
  by_cases a : N.2.1 2 = 200
  · rw [if_pos (e200.mpr a), if_pos a]
    exact ⟨rfl, h.keep⟩
  rw [if_neg (fun w => a (e200.mp w)), if_neg a]
  have hins : insD S.2.2.2.2.1 (S.2.2.2.2.2.1 + 1, d, u) = insF S.2.2.2.2.1 (S.2.2.2.2.2.1 + 1, d, u) := insD_srd hsrd _
  have hstl : ∀ (S' : MS), S'.2.1 = S.2.1 → Stl S' := fun S' e q hq => by rw [e]; exact hS q hq
  by_cases b : u ≤ N.2.2.2.2
  · rw [if_pos b]
    refine ⟨by rw [d3], ?_⟩
    dsimp only
    have hall : ∀ x ∈ S.2.2.2.2.1, u < x.2.2 := fun x hx => i64_le_lt (by rw [← h6] at b; exact b) (d6 x ((hmem x).mp hx))
    have hi2 : insD S.2.2.2.2.1 (S.2.2.2.2.2.1 + 1, d, u) = (S.2.2.2.2.2.1 + 1, d, u) :: S.2.2.2.2.1 := by
      rw [hins]
      unfold insF
      rw [List.filter_eq_nil_iff.mpr (fun x hx => by simpa using i64_nle.mpr (hall x hx)), List.filter_eq_self.mpr (fun x hx => by simpa using hall x hx)]
      rfl
    have hy : pdN (delS S d u) 200 = ((pdN (pdS (delS S d u) (S.2.2.2.2.2.1 + 1, d, u) S.2.2.2.2.1) 199).1 + 1, (pdN (pdS (delS S d u) (S.2.2.2.2.2.1 + 1, d, u) S.2.2.2.2.1) 199).2) := by
      refine pdN_yes 199 (d := (S.2.2.2.2.2.1 + 1, d, u)) (ds := S.2.2.2.2.1) hi2 ?_
      show ¬ S.2.2.2.2.2.2 < u
      rw [h6]; exact i64_nlt.mpr b
    have hz : pdN (pdS (delS S d u) (S.2.2.2.2.2.1 + 1, d, u) S.2.2.2.2.1) 199 = (0, pdS (delS S d u) (S.2.2.2.2.2.1 + 1, d, u) S.2.2.2.2.1) := pdN_stop 199 (fun x hx => d6 x ((hmem x).mp hx))
    rw [hy, hz]
    dsimp only
    obtain ⟨t1, t2, t3, t4, t5⟩ := taskS_o (sS N 3 (N.1 3 + 1)) d
    have hit : itL (taskS (sS N 3 (N.1 3 + 1)) d) = itL N := by
      refine itL_congr (fun j => ?_) (t3 0 (by decide))
      unfold rowN
      rw [t1 2 (by decide) (by decide), t1 3 (by decide) (by decide), t1 4 (by decide) (by decide), t2]
      rfl
    have hdl : dlL (taskS (sS N 3 (N.1 3 + 1)) d) = dlL N := dlL_congr (t3 2 (by decide)) (t1 23 (by decide) (by decide)) (t1 24 (by decide) (by decide)) (by rw [t2]; rfl)
    refine SR.keep (c := c + 1) ⟨?_, fun q hq => ?_, ?_, ?_, ⟨?_, ?_, ?_, ⟨n + 1, ?_, by omega, ?_⟩, ?_, ?_⟩, ?_, ?_, ?_⟩ (hstl _ rfl)
    · rw [t4 1 (by decide)]; exact h1
    · refine ((h2 q hq).mono (Nat.le_succ c)).congr ?_ ?_ ?_ ?_ ?_ ?_ ?_ ?_ ?_ ?_ ?_ (by rw [hit])
      · rw [t1 7 (by decide) (by decide)]; rfl
      · rw [t1 8 (by decide) (by decide)]; rfl
      · rw [t1 12 (by decide) (by decide)]; rfl
      · rw [t2]; rfl
      · rw [t2]; rfl
      · intro r _; rw [t1 17 (by decide) (by decide)]; rfl
      · rw [t1 9 (by decide) (by decide)]; rfl
      · rw [t1 10 (by decide) (by decide)]; rfl
      · rw [t1 11 (by decide) (by decide)]; rfl
      · rw [t1 13 (by decide) (by decide)]; rfl
      · rw [t1 14 (by decide) (by decide)]; rfl
    · rw [moQ_it, hit]; exact moQ_it.mp h3
    · refine h4.task (c := d) rfl rfl (taskS_bg _ _) (by simp [taskS, sS, sN, sI, va_up]) (by simp [taskS, sS, sN, sI, va_up]) ?_
      rw [t5]; rfl
    · rw [hdl]; exact d1
    · rw [t3 2 (by decide)]; exact d2
    · rw [t4 3 (by decide)]
      show S.2.2.2.2.2.1 + 1 = N.1 3 + 1
      rw [d3]
    · rw [t4 3 (by decide)]
      show N.1 3 + 1 = _
      rw [d4a, nI_1]
    · rw [hdl]
      intro x hx
      obtain ⟨m, m1, m2⟩ := d4c x hx
      exact ⟨m, by omega, m2⟩
    · rw [hdl]; exact d5
    · rw [hdl]; exact d6
    · rw [t2]; exact h6
    · have : Psi (pdS (delS S d u) (S.2.2.2.2.2.1 + 1, d, u) S.2.2.2.2.1) = Psi S + 1 := by
        unfold Psi
        show (S.2.2.1 ++ [(d, 1)]).length + _ + _ = _
        simp only [List.length_append, List.length_cons, List.length_nil]
        have e1 : (pdS (delS S d u) (S.2.2.2.2.2.1 + 1, d, u) S.2.2.2.2.1).2.2.2.2.1 = S.2.2.2.2.1 := rfl
        have e2 : ∀ q, (pdS (delS S d u) (S.2.2.2.2.2.1 + 1, d, u) S.2.2.2.2.1).2.1 q = S.2.1 q := fun _ => rfl
        simp only [e2]
        rw [e1]
        omega
      omega
    · rw [t3 0 (by decide)]
      show N.2.1 0 ≤ _
      omega
  · rw [if_neg b]
    refine ⟨by rw [d3], ?_⟩
    dsimp only
    have hdl : dlL (deS N d u) = dlL N ++ [(N.1 3 + 1, d, u)] := by
      have e0 : (deS N d u).2.1 2 = N.2.1 2 + 1 := by simp [deS, sS, sN, sI, sL, va_up]
      unfold dlL
      rw [e0, dlN_succ]
      congr 1
      · unfold dlN
        refine List.map_congr_left (fun j hj => ?_)
        have hne : ¬ j = N.2.1 2 := by have := List.mem_range.mp hj; omega
        simp [deS, sS, sN, sI, sL, va_up, hne]
      · simp [deS, sS, sN, sI, sL, va_up]
    have hsrt : insD S.2.2.2.2.1 (S.2.2.2.2.2.1 + 1, d, u) = srt (dlL (deS N d u)) := by
      rw [hins, hdl, srt_push, d1, d3]
    have hall : ∀ x ∈ dlL (deS N d u), S.2.2.2.2.2.2 < x.2.2 := by
      rw [hdl]
      intro x hx
      rcases List.mem_append.mp hx with w | w
      · exact d6 x w
      · rw [List.mem_singleton.mp w, h6]; exact i64_nle.mp b
    have hz : pdN (delS S d u) 200 = (0, delS S d u) := by
      refine pdN_stop 200 (fun x hx => ?_)
      have hx' : x ∈ insD S.2.2.2.2.1 (S.2.2.2.2.2.1 + 1, d, u) := hx
      rw [hsrt] at hx'
      exact hall x ((srt_perm _).mem_iff.mp hx')
    rw [hz]
    dsimp only
    have hit : itL (deS N d u) = itL N := itL_congr (fun j => by simp [rowN, deS, sS, sN, sI, sL, va_up]) (by simp [deS, sS, sN, sI, sL, va_up])
    refine SR.keep (c := c + 1) ⟨?_, fun q hq => ?_, ?_, ?_, ⟨hsrt, ?_, ?_, ⟨n + 1, ?_, by omega, ?_⟩, ?_, hall⟩, h6, ?_, ?_⟩ (hstl _ rfl)
    · show S.1 = _
      rw [h1]; simp [deS, sS, sN, sI, sL, va_up]
    · refine ((h2 q hq).mono (Nat.le_succ c)).congr ?_ ?_ ?_ ?_ ?_ ?_ ?_ ?_ ?_ ?_ ?_ (by rw [hit])
      all_goals simp [deS, sS, sN, sI, sL, va_up]
    · rw [moQ_it, hit]; exact moQ_it.mp h3
    · obtain ⟨k1, k2, k3⟩ := h4
      refine ⟨?_, fun j x hj => ?_, ?_⟩
      · show _ = S.2.2.1.length
        rw [← k1]; simp [deS, sS, sN, sI, sL, va_up]
      · have := k2 j x hj
        simpa [deS, sS, sN, sI, sL, va_up] using this
      · show S.2.2.2.1 = _
        rw [k3]; simp [deS, sS, sN, sI, sL, va_up]
    · have : (deS N d u).2.1 2 = N.2.1 2 + 1 := by simp [deS, sS, sN, sI, sL, va_up]
      omega
    · show S.2.2.2.2.2.1 + 1 = _
      rw [d3]; simp [deS, sS, sN, sI, sL, va_up]
    · have : (deS N d u).1 3 = N.1 3 + 1 := by simp [deS, sS, sN, sI, sL, va_up]
      rw [this, d4a, nI_1]
    · rw [hdl]
      intro x hx
      rcases List.mem_append.mp hx with w | w
      · obtain ⟨m, m1, m2⟩ := d4c x w
        exact ⟨m, by omega, m2⟩
      · rw [List.mem_singleton.mp w]
        exact ⟨n + 1, Nat.le_refl _, by rw [d4a, nI_1]⟩
    · rw [hdl, List.map_append]
      refine List.nodup_append.mpr ⟨d5, by simp, ?_⟩
      intro a ha b hb hab
      obtain ⟨y, y1, y2⟩ := List.mem_map.mp ha
      obtain ⟨m, m1, m2⟩ := d4c y y1
      have hb' : b = N.1 3 + 1 := by simpa using hb
      rw [← y2, m2] at hab
      rw [hb', d4a, nI_1, nI_eq (by omega) (by omega)] at hab
      omega
    · have : Psi (delS S d u) = Psi S + 1 := by
        unfold Psi
        have e1 : (delS S d u).2.2.2.2.1 = insD S.2.2.2.2.1 (S.2.2.2.2.2.1 + 1, d, u) := rfl
        have e2 : ∀ q, (delS S d u).2.1 q = S.2.1 q := fun _ => rfl
        have e3 : (delS S d u).2.2.1 = S.2.2.1 := rfl
        simp only [e2]
        rw [e1, e3, hins, (insF_perm hsrd _).length_eq, List.length_cons]
        omega
      omega
    · have : (deS N d u).2.1 0 = N.2.1 0 := by simp [deS, sS, sN, sI, sL, va_up]
      omega
theorem canN_spec (S : MS) (n : Int32) : ∀ d i, i + d = S.2.2.2.2.1.length → (∃ A x B, S.2.2.2.2.1 = A ++ x :: B ∧ x.1 = n ∧ canN S n d i = (1, (S.1, S.2.1, S.2.2.1, S.2.2.2.1, A ++ B, S.2.2.2.2.2))) ∨ ((∀ j, i ≤ j → j < S.2.2.2.2.1.length → ¬ ((S.2.2.2.2.1[j]?).getD (0, 0, 0)).1 = n) ∧ canN S n d i = (0, S))
  | 0, i, h => Or.inr ⟨fun j h1 h2 => by omega, rfl⟩
  | d + 1, i, h => by
    rw [canN]
    have hi : i < S.2.2.2.2.1.length := by omega
    by_cases a : ((S.2.2.2.2.1[i]?).getD (0, 0, 0)).1 = n
    · rw [if_pos a]
      rw [List.getElem?_eq_getElem hi] at a
      refine Or.inl ⟨S.2.2.2.2.1.take i, S.2.2.2.2.1[i], S.2.2.2.2.1.drop (i + 1), ?_, a, ?_⟩
      · rw [← List.drop_eq_getElem_cons hi, List.take_append_drop]
      · rw [List.eraseIdx_eq_take_drop_succ]
    · rw [if_neg a]
      rcases canN_spec S n d (i + 1) (by omega) with w | ⟨w1, w2⟩
      · exact Or.inl w
      · refine Or.inr ⟨fun j h1 h2 => ?_, w2⟩
        by_cases e : j = i
        · rw [e]; exact a
        · exact w1 j (by omega) h2
theorem fnN_spec (N : NS) (n : Int32) : ∀ k, (∀ j, fnN N n k = some j → j < k ∧ N.2.2.1 23 j = n) ∧ (fnN N n k = none → ∀ j, j < k → ¬ N.2.2.1 23 j = n)
  | 0 => ⟨fun j h => (by cases h), fun _ j h => by omega⟩
  | k + 1 => by
    obtain ⟨h1, h2⟩ := fnN_spec N n k
    rw [fnN]
    by_cases a : N.2.2.1 23 k = n
    · rw [if_pos a]
      exact ⟨fun j h => by cases h; exact ⟨by omega, a⟩, fun h => by cases h⟩
    · rw [if_neg a]
      refine ⟨fun j h => ⟨by have := h1 j h; omega, (h1 j h).2⟩, fun h j hj => ?_⟩
      by_cases e : j = k
      · rw [e]; exact a
      · exact h2 h j (by omega)
theorem cancel_sim {c : Nat} {S : MS} {N : NS} (h : SI c S N) (n : Int32) : (canI S n).1 = (caM N n).1 ∧ SI (c + 1) (canI S n).2 (ansS (caM N n).2) := by
  obtain ⟨hR, hS⟩ := id h
  obtain ⟨h1, h2, h3, h4, ⟨d1, d2, d3, ⟨d, d4a, d4b, d4c⟩, d5, d6⟩, h6, h7, h8⟩ := id hR
  have hmem : ∀ x, x ∈ S.2.2.2.2.1 ↔ x ∈ dlL N := fun x => by rw [d1]; exact (srt_perm _).mem_iff
  have hnd : (S.2.2.2.2.1.map (fun x => x.1)).Nodup := by rw [d1]; exact ((srt_perm (dlL N)).map _).nodup_iff.mpr d5
  obtain ⟨f1, f2⟩ := fnN_spec N n (N.2.1 2)
  unfold canI caM
  rcases canN_spec S n S.2.2.2.2.1.length 0 (by omega) with ⟨A', x, B', e1, e2, e3⟩ | ⟨w1, w2⟩
  · rw [e3]
    have hx : x ∈ dlL N := (hmem x).mp (by rw [e1]; exact List.mem_append_right _ (List.mem_cons_self ..))
    cases hf : fnN N n (N.2.1 2) with
    | none =>
      exfalso
      obtain ⟨j, hj, e⟩ := List.mem_map.mp hx
      refine f2 hf j (List.mem_range.mp hj) ?_
      rw [← e2, ← e]
    | some k =>
      obtain ⟨g1, g2⟩ := f1 k hf
      obtain ⟨A, B, q1, q2⟩ := dlL_cut N g1
      dsimp only
      refine ⟨rfl, ?_⟩
      have hxk : (drw N k).1 = x.1 := by rw [e2]; exact g2
      have q3 := nod_cut d5 q1
      rw [hxk] at q3
      have q4 := nod_cut hnd e1
      have hdl : dlL (drS N k) = A ++ B := by rw [← q2]; exact dlL_rem q1
      have hss : A' ++ B' = srt (A ++ B) := by rw [← q3, ← q4, ← srt_filter, d1]
      obtain ⟨o1, o2, o3, o4⟩ := drS_o N k
      have n0 : (drS N k).2.1 0 = N.2.1 0 := drS_nn _ _ _ (by decide)
      have hit : itL (drS N k) = itL N := by
        refine itL_congr (fun j => ?_) n0
        unfold rowN
        rw [o2 2 (by decide) (by decide), o2 3 (by decide) (by decide), o2 4 (by decide) (by decide), o3 5 (by decide)]
      have hsub : ∀ y ∈ A ++ B, y ∈ dlL N := by
        intro y hy
        rw [q1]
        rcases List.mem_append.mp hy with w | w
        · exact List.mem_append_left _ w
        · exact List.mem_append_right _ (List.mem_cons_of_mem _ w)
      refine SR.keep (c := c + 1) ⟨?_, fun q hq => ?_, ?_, ?_, ⟨?_, ?_, ?_, ⟨d, ?_, by omega, ?_⟩, ?_, ?_⟩, ?_, ?_, ?_⟩ (fun q hq => hS q hq)
      · rw [o1]; exact h1
      · refine ((h2 q hq).mono (Nat.le_succ c)).congr ?_ ?_ ?_ ?_ ?_ ?_ ?_ ?_ ?_ ?_ ?_ (by rw [hit])
        · rw [o2 7 (by decide) (by decide)]
        · rw [o2 8 (by decide) (by decide)]
        · rw [o2 12 (by decide) (by decide)]
        · rw [o3 15 (by decide)]
        · rw [o3 16 (by decide)]
        · intro r _; rw [o2 17 (by decide) (by decide)]
        · rw [o2 9 (by decide) (by decide)]
        · rw [o2 10 (by decide) (by decide)]
        · rw [o2 11 (by decide) (by decide)]
        · rw [o2 13 (by decide) (by decide)]
        · rw [o2 14 (by decide) (by decide)]
      · rw [moQ_it, hit]; exact moQ_it.mp h3
      · obtain ⟨k1, k2, k3⟩ := h4
        exact ⟨by rw [drS_nn _ _ _ (by decide)]; exact k1, fun j y hj => by rw [o2 18 (by decide) (by decide), o2 19 (by decide) (by decide)]; exact k2 j y hj, by rw [o1]; exact k3⟩
      · rw [hdl]; exact hss
      · rw [drS_dl]; omega
      · rw [o1]; exact d3
      · rw [o1]; exact d4a
      · rw [hdl]; exact fun y hy => d4c y (hsub y hy)
      · rw [hdl, ← q3]
        exact (List.Sublist.map _ List.filter_sublist).nodup d5
      · rw [hdl]; exact fun y hy => d6 y (hsub y hy)
      · rw [o4]; exact h6
      · have : Psi (S.1, S.2.1, S.2.2.1, S.2.2.2.1, A' ++ B', S.2.2.2.2.2) ≤ Psi S := by
          unfold Psi
          show S.2.2.1.length + (A' ++ B').length + _ ≤ S.2.2.1.length + S.2.2.2.2.1.length + _
          rw [e1]
          simp only [List.length_append, List.length_cons]
          omega
        omega
      · rw [n0]; omega
  · rw [w2]
    cases hf : fnN N n (N.2.1 2) with
    | none => exact ⟨rfl, h.keep⟩
    | some k =>
      exfalso
      obtain ⟨g1, g2⟩ := f1 k hf
      have hx : drw N k ∈ S.2.2.2.2.1 := (hmem _).mpr (List.mem_map.mpr ⟨k, List.mem_range.mpr g1, rfl⟩)
      obtain ⟨j, hj, e⟩ := List.mem_iff_getElem.mp hx
      refine w1 j (Nat.zero_le _) hj ?_
      rw [List.getElem?_eq_getElem hj, e]
      exact g2
