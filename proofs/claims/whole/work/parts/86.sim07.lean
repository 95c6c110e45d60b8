theorem nI_sub {a b : Nat} (h : b ≤ a) : nI a - nI b = nI (a - b) := by
  have e : nI a = nI (a - b) + nI b := by rw [nI_add, Nat.sub_add_cancel h]
  rw [e, Int32.add_sub_cancel]
theorem stb_mono {o : Option TS} {a b : Nat} (h : a ≤ b) (hb : b < 2 ^ 31) : stb o (nI a) ≤ stb o (nI b) := by
  unfold stb
  split
  · exact Nat.le_refl _
  · rename_i t
    by_cases c1 : ¬ nI a < t.1 ∧ ¬ t.2.2.1 = 0 ∧ t.2.2.2.1 = 0
    · have c2 : ¬ nI b < t.1 := by
        have h1 := nI_le h hb
        have h2 := c1.1
        rw [i32_nlt] at h2 ⊢
        rw [Int32.le_iff_toInt_le] at h1 h2 ⊢
        omega
      rw [if_pos c1, if_pos (⟨c2, c1.2⟩ : ¬ nI b < t.1 ∧ ¬ t.2.2.1 = 0 ∧ t.2.2.2.1 = 0)]
      exact Nat.le_refl _
    · rw [if_neg c1]; exact Nat.zero_le _
theorem stb_tk {o : Option TS} (f : TS → TS) (n : Int32) (hf : ∀ t, (f t).1 = t.1 ∧ (f t).2.2.1 = t.2.2.1 ∧ (f t).2.2.2.1 = t.2.2.2.1) : stb (o.map f) n = stb o n := by
  unfold stb
  cases o with
  | none => rfl
  | some t =>
    obtain ⟨h1, h2, h3⟩ := hf t
    show (if ¬ n < (f t).1 ∧ ¬ (f t).2.2.1 = 0 ∧ (f t).2.2.2.1 = 0 then 1 else 0) = _
    rw [h1, h2, h3]
theorem tak_II {c : Nat} {s : QS} {r : Rw} {l : List Rw} (h : II c s (r :: l)) (ht : kTrans s.1) (hp : ¬ s.2.1.length = s.2.2.1) : II c (takQ s) l ∧ s.2.1.headD 0 = r.2.2.2 ∧ r.2.2.1 = 0 ∧ s.2.2.2.2.2.1 - nI s.2.1.length + 1 = r.2.1 := by
  have hln := h.len
  obtain ⟨h1, h2, h3, h4, h5, ⟨m, m1, m2, m3⟩, ⟨t, t1, t2⟩, h8⟩ := h
  obtain ⟨m3a, m3b⟩ := m3 ht
  rw [List.length_cons] at hln
  have htl : s.2.1.tail.length = s.2.1.length - 1 := List.length_tail
  have htv : s.2.1.tail = l.map (fun r => r.2.2.2) := by rw [← h1]; rfl
  have e1 : s.2.1.length - s.2.2.1 = (s.2.1.length - 1 - s.2.2.1) + 1 := by omega
  rw [e1, List.replicate_succ, List.map_cons, List.cons_append] at h2
  have hc := List.cons.inj h2
  have hnum : s.2.2.2.2.2.1 - nI s.2.1.length + 1 = nI (m - s.2.1.length + 1) := by rw [m1, nI_sub m3a, nI_1]
  have hr0 := m3b 0 r rfl
  refine ⟨⟨?_, ?_, ?_, ?_, ?_, ⟨m, m1, m2, ?_⟩, ⟨m - s.2.1.length + 1, hnum, by omega⟩, fun p hpp => ?_⟩, ?_, hc.1, by rw [hnum, hr0]⟩
  · show _ = s.2.1.tail
    exact htv.symm
  · show _ = List.replicate (s.2.1.tail.length - s.2.2.1) 0 ++ List.replicate s.2.2.1 s.2.2.2.1
    rw [htl]; exact hc.2
  · show s.2.2.1 ≤ s.2.1.tail.length
    omega
  · show ¬ s.2.2.1 = 0 → ¬ s.2.2.2.1 ≤ 0 ∧ kProt (if s.2.1.tail = [] then -1 else s.1)
    intro w
    rw [if_neg (by rw [← List.length_eq_zero_iff]; omega)]
    exact h4 w
  · show ((if s.2.1.tail = [] then -1 else s.1) = -1 ∧ s.2.1.tail = []) ∨ (((if s.2.1.tail = [] then -1 else s.1) = 0 ∨ (if s.2.1.tail = [] then -1 else s.1) = 1 ∨ (if s.2.1.tail = [] then -1 else s.1) = 2 ∨ (if s.2.1.tail = [] then -1 else s.1) = 3) ∧ s.2.1.tail ≠ [])
    by_cases w : s.2.1.tail = []
    · rw [if_pos w]; exact Or.inl ⟨rfl, w⟩
    · rw [if_neg w]
      rcases h5 with ⟨e, -⟩ | ⟨e, -⟩
      · rw [e] at ht; exact absurd ht (by decide)
      · exact Or.inr ⟨e, w⟩
  · show kTrans (if s.2.1.tail = [] then -1 else s.1) → s.2.1.tail.length ≤ m ∧ ∀ (j : Nat) (x : Rw), l[j]? = some x → x.2.1 = nI (m - s.2.1.tail.length + j + 1)
    intro _
    refine ⟨by omega, fun j x hx => ?_⟩
    rw [m3b (j + 1) x hx, htl]
    congr 1
    omega
  · have hpp' : p ∈ (if s.2.1.tail = [] then List.replicate 8 0 else qP s) := hpp
    by_cases w : s.2.1.tail = []
    · rw [if_pos w] at hpp'
      exact ⟨0, Nat.zero_le _, (List.eq_of_mem_replicate hpp')⟩
    · rw [if_neg w] at hpp'
      exact h8 p hpp'
  · rw [← h1]; rfl
theorem take_sim {c : Nat} {S : MS} {N : NS} (h : SI c S N) (hc : c < 600) {i : Nat} (hi : i < 32) : (takI S i).1 = (tkM N i).1 ∧ SI (c + 1) (takI S i).2 (ansS (tkM N i).2) := by
  obtain ⟨hR, hS⟩ := id h
  have hQ := hR.2.1 i hi
  obtain ⟨hK, hT, hI⟩ := id hQ
  obtain ⟨k1, k2, k3, k4, k5, k6, k7⟩ := id hK
  have hlen := hR.len hi
  have hitc := hR.itc
  unfold takI tkM
  by_cases a : kTemp (S.2.1 i).1
  · rw [if_pos a, if_pos (by rw [k1]; exact hI.temp.mp a)]
    exact ⟨rfl, h.keep⟩
  have hn7 : ¬ (N.2.2.1 7 i = 0 ∨ N.2.2.1 7 i = 1) := by rw [k1]; exact fun w => a (hI.temp.mpr w)
  rw [if_neg a, if_neg hn7]
  by_cases b : (S.2.1 i).2.1 = []
  · rw [if_pos b, plI_out (N := N) (by omega) (Or.inr (by rw [hI.len, b]; decide))]
    exact ⟨rfl, h.keep⟩
  rw [if_neg b]
  have hl1 : 0 < (S.2.1 i).2.1.length := List.length_pos_iff.mpr b
  obtain ⟨A, r, B, e1, e2, e3, e4⟩ := plI_at (N := N) (q := nI i) (j := 0) (by omega) (by rw [hI.len]; exact hl1)
  obtain ⟨g1, g2, g3⟩ := itL_at e1
  have e4' : plI N (nI i) 1 = some A.length := e4
  rw [e4']
  dsimp only
  have hfA : fq (nI i) A = [] := List.length_eq_zero_iff.mp e3
  have hfq : fq (nI i) (itL N) = r :: fq (nI i) B := by rw [e1, fq_app, hfA, fq_yes _ e2]; rfl
  have hI' := hI
  rw [hfq] at hI'
  have hr4 : N.2.2.1 4 A.length = r.2.2.1 := by rw [← g2]; rfl
  by_cases d : (S.2.1 i).2.1.length = (S.2.1 i).2.2.1
  · obtain ⟨-, u2, -, u4, -⟩ := hI'
    have hu : ¬ r.2.2.1 ≤ 0 := by
      obtain ⟨n, hn⟩ := Nat.exists_eq_succ_of_ne_zero (n := (S.2.1 i).2.2.1) (by omega)
      rw [d, Nat.sub_self, hn, List.replicate_succ, List.map_cons] at u2
      rw [(List.cons.inj u2).1]
      exact (u4 (by omega)).1
    rw [if_pos d, if_pos (by rw [hr4]; exact hu)]
    exact ⟨rfl, h.keep⟩
  rw [if_neg d]
  have hkt : kTrans (S.2.1 i).1 := by
    rcases hI.2.2.2.2.1 with ⟨-, e⟩ | ⟨e | e | e | e, -⟩
    · exact absurd e b
    · rw [e] at a; exact absurd (by decide) a
    · rw [e] at a; exact absurd (by decide) a
    · rw [e]; decide
    · rw [e]; decide
  obtain ⟨p1, p2, p3, p4⟩ := tak_II hI' hkt d
  rw [if_neg (by rw [hr4, p3]; decide)]
  have et : itL (tkS N i A.length) = A ++ r :: B := by
    rw [← e1]
    refine itL_congr (fun j => ?_) rfl
    simp [rowN, tkS, sI, sL, va_up]
  obtain ⟨o1, o2, o3, o4, o5, o6, o7⟩ := remS_o et i e2
  have it := itL_remS et i
  have hr3 : N.2.2.1 3 A.length = r.2.1 := by rw [← g2]; rfl
  have hr5 : N.2.2.2.1 5 A.length = r.2.2.2 := by rw [← g2]; rfl
  have h12 : (remS (tkS N i A.length) A.length i).2.2.1 12 i = r.2.1 := by
    rw [o3 12 (by decide) (by decide) (by decide) (by decide) (by decide), ← hr3]
    simp [tkS, sI, sL, va_up]
  refine ⟨by rw [h12]; exact p4, ?_⟩
  dsimp only
  have htail : fq (nI i) (A ++ B) = [] ↔ (S.2.1 i).2.1.tail = [] := by
    rw [fq_app, hfA, List.nil_append, ← hI.1, hfq]
    show _ ↔ (fq (nI i) B).map _ = []
    rw [List.map_eq_nil_iff]
  suffices key : SR (c + 1) (takS S i) (remS (tkS N i A.length) A.length i) from key.look
  refine hR.upQ hi (Nat.le_succ c) ?_ ?_ ?_ ?_ ?_ ?_ ?_ ?_ ?_ ?_ ?_ ?_ ?_ ?_ ?_ ?_
  · refine ⟨⟨?_, ?_, ?_, ?_, ?_, ?_, fun x hx => ?_⟩, ?_, ?_⟩
    · show _ = if (S.2.1 i).2.1.tail = [] then -1 else (S.2.1 i).1
      rw [o6, ← k1]
      by_cases w : (S.2.1 i).2.1.tail = []
      · rw [if_pos w, if_pos ⟨rfl, htail.mpr w⟩]
      · rw [if_neg w, if_neg (fun x => w (htail.mp x.2))]
        simp [tkS, sI, sL, va_up]
    · show _ = (S.2.1 i).2.2.2.2.2.1
      rw [o3 8 (by decide) (by decide) (by decide) (by decide) (by decide), ← k2]
      simp [tkS, sI, sL, va_up]
    · show _ = (S.2.1 i).2.2.2.2.2.1 - nI (S.2.1 i).2.1.length + 1
      rw [h12, p4]
    · show _ = (S.2.1 i).2.2.2.2.1
      rw [o4 15 (by decide), ← k4]
      simp [tkS, sI, sL, va_up]
    · show _ = (S.2.1 i).2.1.headD 0
      rw [o4 16 (by decide), p2, ← hr5]
      simp [tkS, sI, sL, va_up]
    · show (if (S.2.1 i).2.1.tail = [] then List.replicate 8 0 else qP (S.2.1 i)).length = 8
      split
      · rfl
      · exact k6
    · show _ = (if (S.2.1 i).2.1.tail = [] then List.replicate 8 0 else qP (S.2.1 i)).getD x 0
      rw [o7]
      by_cases w : (S.2.1 i).2.1.tail = []
      · rw [if_pos w, if_pos ⟨by omega, htail.mpr w⟩, List.getD_eq_getElem?_getD, List.getElem?_replicate, if_pos hx]
        rfl
      · rw [if_neg w, if_neg (fun x => w (htail.mp x.2)), ← k7 x hx]
        simp [tkS, sI, sL, va_up]
    · have hqT : qT (takQ (S.2.1 i)) = (qT (S.2.1 i)).map (fun t => (t.1, t.2.1, t.2.2.1, t.2.2.2.1, 1)) := rfl
      have ne : ∀ x, x ≠ 2 → x ≠ 3 → x ≠ 4 → x ≠ 7 → x ≠ 17 → x ≠ 12 → x ≠ 14 → (remS (tkS N i A.length) A.length i).2.2.1 x i = N.2.2.1 x i := by
        intro x x2 x3 x4 x7 x17 x12 x14
        rw [o3 x x2 x3 x4 x7 x17]
        simp [tkS, sI, sL, va_up, x12, x14]
      cases ht : qT (S.2.1 i) with
      | none =>
        refine TI.mk_none (by rw [hqT, ht]; rfl) ?_
        rw [ne 9 (by decide) (by decide) (by decide) (by decide) (by decide) (by decide) (by decide)]
        exact hT.no ht
      | some t =>
        obtain ⟨t1, t2, t3, t4, t5, t6, t7, t8⟩ := hT.yes ht
        refine TI.mk_some (t := (t.1, t.2.1, t.2.2.1, t.2.2.2.1, 1)) (by rw [hqT, ht]; rfl) ⟨?_, ?_, t3, ?_, ?_, t6, ?_, fun _ => ?_⟩
        · show ¬ kTemp (if (S.2.1 i).2.1.tail = [] then -1 else (S.2.1 i).1)
          split
          · decide
          · exact a
        · rw [ne 9 (by decide) (by decide) (by decide) (by decide) (by decide) (by decide) (by decide)]; exact t2
        · rw [ne 10 (by decide) (by decide) (by decide) (by decide) (by decide) (by decide) (by decide)]; exact t4
        · rw [ne 13 (by decide) (by decide) (by decide) (by decide) (by decide) (by decide) (by decide)]; exact t5
        · rw [ne 11 (by decide) (by decide) (by decide) (by decide) (by decide) (by decide) (by decide)]; exact t7
        · rw [o3 14 (by decide) (by decide) (by decide) (by decide) (by decide)]
          simp [tkS, sI, sL, va_up]
    · rw [it, fq_app, hfA]
      exact p1.mono (Nat.le_succ c)
  · intro q hq hqi
    have hqn : ¬ r.1 = nI q := by rw [e2, nI_eq (by omega) (by omega)]; omega
    have ne : ∀ x, x ≠ 2 → x ≠ 3 → x ≠ 4 → x ≠ 7 → x ≠ 17 → (remS (tkS N i A.length) A.length i).2.2.1 x q = N.2.2.1 x q := by
      intro x x2 x3 x4 x7 x17
      rw [o3 x x2 x3 x4 x7 x17]
      by_cases x12 : x = 12 <;> by_cases x14 : x = 14 <;> simp [tkS, sI, sL, va_up, x12, x14, hqi]
    refine (hR.2.1 q hq).congr ?_ (ne 8 (by decide) (by decide) (by decide) (by decide) (by decide)) (ne 12 (by decide) (by decide) (by decide) (by decide) (by decide)) ?_ ?_ ?_ (ne 9 (by decide) (by decide) (by decide) (by decide) (by decide)) (ne 10 (by decide) (by decide) (by decide) (by decide) (by decide)) (ne 11 (by decide) (by decide) (by decide) (by decide) (by decide)) (ne 13 (by decide) (by decide) (by decide) (by decide) (by decide)) (ne 14 (by decide) (by decide) (by decide) (by decide) (by decide)) ?_
    · rw [o6, if_neg (fun x => hqi x.1)]
      simp [tkS, sI, sL, va_up]
    · rw [o4 15 (by decide)]
      simp [tkS, sI, sL, va_up]
    · rw [o4 16 (by decide)]
      simp [tkS, sI, sL, va_up, hqi]
    · intro x hx
      rw [o7, if_neg (by omega)]
      simp [tkS, sI, sL, va_up]
    · rw [it, e1, fq_app, fq_app, fq_no _ hqn]
  · rw [o1]; rfl
  · rw [o1]; rfl
  · rw [o1]; rfl
  · rw [o2 1 (by decide)]; rfl
  · rw [o2 2 (by decide)]; rfl
  · rw [o3 18 (by decide) (by decide) (by decide) (by decide) (by decide)]; simp [tkS, sI, sL, va_up]
  · rw [o3 19 (by decide) (by decide) (by decide) (by decide) (by decide)]; simp [tkS, sI, sL, va_up]
  · rw [o3 23 (by decide) (by decide) (by decide) (by decide) (by decide)]; simp [tkS, sI, sL, va_up]
  · rw [o3 24 (by decide) (by decide) (by decide) (by decide) (by decide)]; simp [tkS, sI, sL, va_up]
  · rw [o4 25 (by decide)]; simp [tkS, sI, sL, va_up]
  · rw [o5]; rfl
  · rw [moQ_it, it]
    intro x hx
    have := moQ_it.mp hR.2.2.1
    rw [e1] at this
    rcases List.mem_append.mp hx with w | w
    · exact this x (List.mem_append_left _ w)
    · exact this x (List.mem_append_right _ (List.mem_cons_of_mem _ w))
  · have e : wq (takQ (S.2.1 i)) = (S.2.1 i).2.2.1 + stb ((qT (S.2.1 i)).map (fun t => (t.1, t.2.1, t.2.2.1, t.2.2.2.1, 1))) (nI ((S.2.1 i).2.1.tail.length - (S.2.1 i).2.2.1)) := rfl
    rw [e, stb_tk (fun t => (t.1, t.2.1, t.2.2.1, t.2.2.2.1, 1)) _ (fun t => ⟨rfl, rfl, rfl⟩), List.length_tail]
    have := stb_mono (o := qT (S.2.1 i)) (a := (S.2.1 i).2.1.length - 1 - (S.2.1 i).2.2.1) (b := (S.2.1 i).2.1.length - (S.2.1 i).2.2.1) (by omega) (by omega)
    have e2 : wq (S.2.1 i) = (S.2.1 i).2.2.1 + stb (qT (S.2.1 i)) (nI ((S.2.1 i).2.1.length - (S.2.1 i).2.2.1)) := rfl
    omega
  · rw [remS_it]
    show N.2.1 0 - 1 ≤ c + 1
    omega
theorem SI.code {c : Nat} {S : MS} {N : NS} (h : SI c S N) (v : Int32) : SI c S (sS N 0 v) := ⟨h.1.code v, h.2⟩
theorem plN_code (N : NS) (v : Int32) (q i : Int32) : ∀ d k n, plN (sS N 0 v) q i d k n = plN N q i d k n := by
  intro d
  induction d with
  | zero => intro k n; rfl
  | succ d ih => intro k n; rw [plN, plN, ih, ih]; rfl
theorem plI_code (N : NS) (v : Int32) (q i : Int32) : plI (sS N 0 v) q i = plI N q i := plN_code N v q i _ _ _
/-- get that throws -/
theorem getT_sim {c : Nat} {S : MS} {N : NS} (h : SI c S N) (hc : c < 600) {i : Nat} (hi : i < 32) (n : Int32) (hE : gtE S i n) : (gtM N i n).2.1 0 = 1 ∧ SI (c + 1) S (gtM N i n).2 := by
  obtain ⟨hR, hS⟩ := id h
  obtain ⟨hK, hT, hI⟩ := hR.2.1 i hi
  obtain ⟨k1, k2, k3, k4, k5, k6, k7⟩ := id hK
  have hlen := hR.len hi
  have hitc := hR.itc
  have hmo := h.mono (Nat.le_succ c)
  unfold gtM
  by_cases a : kTemp (S.2.1 i).1
  · have hn7 : ¬ ¬ (N.2.2.1 7 i = 0 ∨ N.2.2.1 7 i = 1) := by rw [k1]; exact not_not_intro (hI.temp.mp a)
    rw [if_neg hn7]
    have hx : nxN (S.2.1 i) n := hE.elim (fun w => w.2) (fun w => absurd a w.1)
    have hp : plI (sS N 0 1) (nI i) n = none := by rw [plI_code]; exact plI_out (N := N) (by omega) (by rw [hI.len]; exact hx)
    rw [hp]
    exact ⟨by simp [sS, va_up], hmo.code 1⟩
  · have hn7 : ¬ (N.2.2.1 7 i = 0 ∨ N.2.2.1 7 i = 1) := by rw [k1]; exact fun w => a (hI.temp.mpr w)
    rw [if_pos hn7]
    have hx := hE.elim (fun w => absurd w.1 a) (fun w => w.2)
    rw [if_neg (fun w => ?_)]
    · exact ⟨by simp [sS, va_up], (hmo.code 1).code 1⟩
    · obtain ⟨w1, w2⟩ := w
      rw [k3] at w1
      rcases hx with x | x
      · rw [x] at w1; rw [← w1] at w2; exact w2 (by decide)
      · exact x w1.symm
theorem get_sim {c : Nat} {S : MS} {N : NS} (h : SI c S N) (hc : c < 600) {i : Nat} (hi : i < 32) (n : Int32) (hE : ¬ gtE S i n) : (gtM N i n).2.1 0 = 0 ∧ (gtI S i n).1 = (gtM N i n).1 ∧ SI (c + 1) (gtI S i n).2 (gtM N i n).2 := by
  obtain ⟨hR, hS⟩ := id h
  have hQ := hR.2.1 i hi
  obtain ⟨hK, hT, hI⟩ := id hQ
  obtain ⟨k1, k2, k3, k4, k5, k6, k7⟩ := id hK
  have hlen := hR.len hi
  have hitc := hR.itc
  have hmo := h.mono (Nat.le_succ c)
  unfold gtM gtI
  by_cases a : kTemp (S.2.1 i).1
  · have hn7 : ¬ ¬ (N.2.2.1 7 i = 0 ∨ N.2.2.1 7 i = 1) := by rw [k1]; exact not_not_intro (hI.temp.mp a)
    rw [if_neg hn7, if_pos a]
    have b : ¬ nxN (S.2.1 i) n := fun w => hE (Or.inl ⟨a, w⟩)
    obtain ⟨j, j1, j2, j3⟩ := zpos' (by omega) b
    obtain ⟨A, r, B, e1, e2, e3, e4⟩ := plI_at (N := N) (q := nI i) (j := j) (by omega) (by rw [hI.len]; exact j1)
    obtain ⟨g1, g2, g3⟩ := itL_at e1
    have hp : plI (sS N 0 1) (nI i) n = some A.length := by rw [plI_code, j2]; exact e4
    rw [hp, j3]
    dsimp only
    refine ⟨by simp [sS, sL, va_up], ?_, ?_⟩
    · rw [← hI.1, e1, fq_app, fq_yes _ e2]
      have hr5 : N.2.2.2.1 5 A.length = r.2.2.2 := by rw [← g2]; rfl
      rw [hr5, List.map_append, List.getElem?_append_right (by rw [List.length_map, e3]; exact Nat.le_refl _), List.length_map, e3, Nat.sub_self]
      rfl
    · have hit : itL (sL (sS (sS N 0 1) 0 0) 15 i N.2.2.2.2) = itL N := itL_congr (fun j => by simp [rowN, sS, sL, va_up]) rfl
      refine ⟨hR.upQ hi (Nat.le_succ c) ?_ ?_ rfl rfl rfl rfl rfl rfl rfl rfl rfl (by simp [sS, sL, va_up]) rfl hR.2.2.1 ?_ (Nat.le_succ_of_le hitc), fun q hq => ?_⟩
      · refine ⟨⟨k1, k2, k3, ?_, by simp [sS, sL, va_up]; exact k5, k6, k7⟩, hT, ?_⟩
        · show _ = S.2.2.2.2.2.2
          rw [hR.2.2.2.2.2.1]; simp [sS, sL, va_up]
        · rw [hit]
          exact hI.mono (Nat.le_succ c)
      · intro q hq hqi
        exact (hR.2.1 q hq).congr rfl rfl rfl (by simp [sS, sL, va_up, hqi]) (by simp [sS, sL, va_up]) (fun _ _ => rfl) rfl rfl rfl rfl rfl (by rw [hit])
      · show wq (S.2.1 i) + c ≤ _
        omega
      · show sed (va_up S.2.1 i (tchQ (S.2.1 i) S.2.2.2.2.2.2) q)
        by_cases hqi : q = i
        · subst hqi; rw [va_up_self]; exact hS q hq
        · rw [va_up_ne _ _ hqi]; exact hS q hq
  · have hn7 : ¬ (N.2.2.1 7 i = 0 ∨ N.2.2.1 7 i = 1) := by rw [k1]; exact fun w => a (hI.temp.mpr w)
    have h0 : ¬ (S.2.1 i).2.2.2.2.2.2.1 = 0 := fun w => hE (Or.inr ⟨a, Or.inl w⟩)
    have h1 : n = (S.2.1 i).2.2.2.2.2.2.1 := Classical.not_not.mp (fun w => hE (Or.inr ⟨a, Or.inr w⟩))
    obtain ⟨t, t1, t2⟩ := hI.2.2.2.2.2.2.1
    have ht : 0 < t := by
      rcases Nat.eq_zero_or_pos t with e | e
      · rw [e] at t1; exact absurd t1 h0
      · exact e
    have hC : gtC N i n := ⟨by rw [k3]; exact h1.symm, by rw [h1, t1]; exact nI_nle ht (by omega)⟩
    rw [if_pos hn7, if_pos hC, if_neg a]
    exact ⟨by simp [sS, va_up], k5.symm, (hmo.code 1).code 0⟩
theorem started_sim {c : Nat} {S : MS} {N : NS} (h : SI c S N) (hc : c < 600) (t : Int32) : staF S t = saM N t := by
  obtain ⟨k1, k2, k3⟩ := h.1.2.2.2.1
  have hl := h.1.tasks
  unfold staF saM
  have e : (t ≤ 0) ↔ t < 1 := by
    rw [Int32.le_iff_toInt_le, Int32.lt_iff_toInt_lt]
    have e1 : (0 : Int32).toInt = 0 := rfl
    have e2 : (1 : Int32).toInt = 1 := rfl
    omega
  have e2 : (t ≤ 0 ∨ nI (N.2.1 1) < t) ↔ (t < 1 ∨ nI S.2.2.1.length < t) := by rw [e, k1]
  by_cases a : t < 1 ∨ nI S.2.2.1.length < t
  · rw [if_pos a, if_pos (e2.mpr a)]
  · rw [if_neg a, if_neg (fun w => a (e2.mp w))]
    obtain ⟨j, j1, j2, j3⟩ := zpos' (by omega) a
    rw [j3, List.getElem?_eq_getElem j1]
    exact (k2 j _ (List.getElem?_eq_getElem j1)).1.symm
theorem count_sim {c : Nat} {S : MS} {N : NS} (h : SI c S N) (hc : c < 600) (w : Int32) : cntF S w = ctM N w := by
  obtain ⟨k1, k2, k3⟩ := h.1.2.2.2.1
  unfold cntF ctM
  by_cases a : w < 0 ∨ 32 ≤ w
  · rw [if_neg (not_not_intro a), if_neg (not_not_intro a)]
    have e : (¬ w < 32 ∧ ¬ (w - 32 < 0 ∨ 32 ≤ w - 32)) ↔ ¬ (w < 32 ∨ 64 ≤ w) := by
      constructor
      · rintro ⟨x, y⟩ (z | z)
        · exact x z
        · refine y (Or.inr ?_)
          obtain ⟨j, j1, j2⟩ := nI_of (x := w) (fun z => x (by
            rw [Int32.lt_iff_toInt_lt] at z ⊢
            have e1 : (0 : Int32).toInt = 0 := rfl
            have e2 : (32 : Int32).toInt = 32 := rfl
            omega))
          subst j2
          have e1 : (32 : Int32) = nI 32 := rfl
          have e2 : (64 : Int32) = nI 64 := rfl
          rw [e2, nI_leI (by omega) j1] at z
          rw [e1, nI_sub (by omega), nI_leI (by omega) (by omega)]
          omega
      · intro x
        have x1 : ¬ w < 32 := fun y => x (Or.inl y)
        have x2 : ¬ 64 ≤ w := fun y => x (Or.inr y)
        refine ⟨x1, ?_⟩
        obtain ⟨j, j1, j2⟩ := nI_of (x := w) (fun z => x1 (by
            rw [Int32.lt_iff_toInt_lt] at z ⊢
            have e1 : (0 : Int32).toInt = 0 := rfl
            have e2 : (32 : Int32).toInt = 32 := rfl
            omega))
        subst j2
        have e1 : (32 : Int32) = nI 32 := rfl
        have e2 : (64 : Int32) = nI 64 := rfl
        have e3 : (0 : Int32) = nI 0 := rfl
        rw [e1, nI_ltI j1 (by omega)] at x1
        rw [e2, nI_leI (by omega) j1] at x2
        rw [e1, nI_sub (by omega), e3, nI_ltI (by omega) (by omega), nI_leI (by omega) (by omega)]
        omega
    by_cases b : w < 32 ∨ 64 ≤ w
    · rw [if_neg (fun x => e.mp x b), if_neg (not_not_intro b), h.1.tot, k1, k3]
      by_cases c1 : w = 64
      · rw [if_pos c1, if_pos c1]
      rw [if_neg c1, if_neg c1]
      by_cases c2 : w = 65
      · rw [if_pos c2, if_pos c2]
      rw [if_neg c2, if_neg c2]
      by_cases c3 : w = 66
      · rw [if_pos c3, if_pos c3]
      rw [if_neg c3, if_neg c3]
      obtain ⟨d1, -⟩ := h.1.2.2.2.2.1
      have hs : ∀ l : List DS, (srt l).length = l.length := by
        intro l
        have : ∀ (l a : List DS), (l.foldl insF a).length = a.length + l.length := by
          intro l
          induction l with
          | nil => intro a; rfl
          | cons d l ih =>
            intro a
            rw [List.foldl_cons, ih]
            have : (insF a d).length = a.length + 1 := by
              unfold insF
              rw [List.length_append, List.length_cons]
              have h1 : ∀ a : List DS, (a.filter (fun x => decide (x.2.2 ≤ d.2.2))).length + (a.filter (fun x => decide (d.2.2 < x.2.2))).length = a.length := by
                intro a
                induction a with
                | nil => rfl
                | cons y a ih =>
                  by_cases hy : y.2.2 ≤ d.2.2
                  · rw [List.filter_cons_of_pos (by simpa using hy), List.filter_cons_of_neg (by simpa using hy)]
                    simp only [List.length_cons]
                    omega
                  · rw [List.filter_cons_of_neg (by simpa using hy), List.filter_cons_of_pos (by simpa using (i64_nle.mp hy))]
                    simp only [List.length_cons]
                    omega
              have := h1 a
              omega
            rw [this, List.length_cons]
            omega
        have := this l []
        simpa [srt] using this
      rw [d1, hs, dlL, dlN_len]
    · rw [if_pos (e.mpr b), if_pos b]
      have b1 : ¬ w < 32 := fun y => b (Or.inl y)
      have b2 : ¬ 64 ≤ w := fun y => b (Or.inr y)
      obtain ⟨j, j1, j2⟩ := nI_of (x := w) (fun z => b1 (by
            rw [Int32.lt_iff_toInt_lt] at z ⊢
            have e1 : (0 : Int32).toInt = 0 := rfl
            have e2 : (32 : Int32).toInt = 32 := rfl
            omega))
      subst j2
      have e1 : (32 : Int32) = nI 32 := rfl
      have e2 : (64 : Int32) = nI 64 := rfl
      rw [e1, nI_ltI j1 (by omega)] at b1
      rw [e2, nI_leI (by omega) j1] at b2
      rw [e1, nI_sub (by omega), nI_clamp (by omega)]
      exact ((h.1.2.1 (j - 32) (by omega)).1.1).symm
  · rw [if_pos a, if_pos a]
    obtain ⟨i, hi, rfl⟩ := zidx a
    rw [nI_clamp (by omega), h.1.mn hi]
