/-- the reference half made: the fields so far and the arrays so far -/
def zmp (z m : Nat) (fs : List Value) (al : List (Nat × ZE)) : ZM := fun q => if q = m then some (.inr (7, fs)) else if q = z then some (.inl (0, [])) else (al.find? (fun p => decide (p.1 = q))).map (fun p => p.2)
def zmI (z m : Nat) (al : List (Nat × ZE)) : Prop := (∀ p ∈ al, p.1 ≠ m ∧ p.1 ≠ z) ∧ (al.map Prod.fst).Nodup
theorem zmp_m (z m : Nat) (fs : List Value) (al : List (Nat × ZE)) : zmp z m fs al m = some (.inr (7, fs)) := if_pos rfl
theorem zmp_none {z m q : Nat} {fs : List Value} {al : List (Nat × ZE)} (h : zmp z m fs al q = none) : q ≠ m ∧ q ≠ z ∧ ∀ p ∈ al, p.1 ≠ q := by
  unfold zmp at h
  split at h
  · cases h
  · rename_i h1
    split at h
    · cases h
    · rename_i h2
      refine ⟨h1, h2, fun p hp e => ?_⟩
      rw [Option.map_eq_none_iff, List.find?_eq_none] at h
      exact h p hp (by simpa using e)
theorem zmp_new {z m q : Nat} {fs : List Value} {al : List (Nat × ZE)} (e : ZE) (h : zmp z m fs al q = none) : zset (zmp z m fs al) q e = zmp z m fs ((q, e) :: al) := by
  obtain ⟨h1, h2, h3⟩ := zmp_none h
  funext y
  by_cases hy : y = q
  · rw [hy, zset_self]
    unfold zmp
    rw [if_neg h1, if_neg h2]
    simp
  · rw [zset_ne hy]
    unfold zmp
    rw [List.find?_cons_of_neg (by simpa using Ne.symm hy)]
theorem zmp_put {z m : Nat} {fs fs' : List Value} {al : List (Nat × ZE)} : zset (zmp z m fs al) m (.inr (7, fs')) = zmp z m fs' al := by
  funext y
  by_cases hy : y = m
  · rw [hy, zset_self, zmp_m]
  · rw [zset_ne hy]
    unfold zmp
    rw [if_neg hy, if_neg hy]
theorem zmI.cons {z m q : Nat} {fs : List Value} {al : List (Nat × ZE)} {e : ZE} (h : zmI z m al) (hq : zmp z m fs al q = none) : zmI z m ((q, e) :: al) := by
  obtain ⟨h1, h2, h3⟩ := zmp_none hq
  refine ⟨fun p hp => ?_, ?_⟩
  · rcases List.mem_cons.mp hp with rfl | hp
    · exact ⟨h1, h2⟩
    · exact h.1 p hp
  · rw [List.map_cons, List.nodup_cons]
    refine ⟨fun hm => ?_, h.2⟩
    obtain ⟨p, hp, hpe⟩ := List.mem_map.mp hm
    exact h3 p hp hpe
theorem nodup_inj {f : Nat → Nat} : ∀ l : List Nat, (l.map f).Nodup → ∀ a ∈ l, ∀ b ∈ l, f a = f b → a = b
  | [], _, a, ha, _, _, _ => by cases ha
  | x :: l, h, a, ha, b, hb, e => by
    rw [List.map_cons, List.nodup_cons] at h
    rcases List.mem_cons.mp ha with rfl | ha
    · rcases List.mem_cons.mp hb with rfl | hb
      · rfl
      · exact absurd (List.mem_map.mpr ⟨b, hb, e.symm⟩) h.1
    · rcases List.mem_cons.mp hb with rfl | hb
      · exact absurd (show f b ∈ l.map f from List.mem_map.mpr ⟨a, ‹a ∈ l›, e⟩) h.1
      · exact nodup_inj l h.2 a ha b hb e
def alM (ad : Nat → Nat) (N : NS) : List (Nat × ZE) := (AKs.map (fun k => (ad k, arF k (N.2.2.1 k) (N.2.2.2.1 k)))).reverse
theorem zmp_zmo {z m : Nat} {ad : Nat → Nat} {N : NS} (hz : m ≠ z) (h : zmI z m (alM ad N)) : zAd z m ad ∧ zmp z m (fMo ad N) (alM ad N) = zmo z m ad N := by
  have hmem : ∀ k ∈ AKs, (ad k, arF k (N.2.2.1 k) (N.2.2.2.1 k)) ∈ alM ad N := fun k hk => by
    unfold alM
    rw [List.mem_reverse]
    exact List.mem_map.mpr ⟨k, hk, rfl⟩
  have hnd : (AKs.map ad).Nodup := by
    have h2 := h.2
    unfold alM at h2
    rw [List.map_reverse, List.map_map] at h2
    exact ((List.reverse_perm _).nodup_iff).mp h2
  have hA : zAd z m ad := ⟨hz, fun k hk => h.1 _ (hmem k hk), fun k hk k' hk' e => nodup_inj AKs hnd k hk k' hk' e⟩
  refine ⟨hA, ?_⟩
  funext q
  unfold zmp zmo
  split
  · rfl
  · split
    · rfl
    · cases hf : AKs.find? (fun k => decide (ad k = q)) with
      | none =>
        rw [List.find?_eq_none] at hf
        rw [Option.map_none, Option.map_eq_none_iff, List.find?_eq_none]
        intro p hp he
        unfold alM at hp
        rw [List.mem_reverse] at hp
        obtain ⟨k, hk, rfl⟩ := List.mem_map.mp hp
        exact hf k hk he
      | some k =>
        have h1 : ad k = q := by simpa using List.find?_some hf
        have h2 := List.mem_of_find?_eq_some hf
        cases hg : (alM ad N).find? (fun p => decide (p.1 = q)) with
        | none =>
          rw [List.find?_eq_none] at hg
          exact absurd (by simpa using h1) (hg _ (hmem k h2))
        | some p =>
          have g1 : p.1 = q := by simpa using List.find?_some hg
          have g2 := List.mem_of_find?_eq_some hg
          unfold alM at g2
          rw [List.mem_reverse] at g2
          obtain ⟨k', hk', rfl⟩ := List.mem_map.mp g2
          rw [hA.2.2 k' hk' k h2 (g1.trans h1.symm)]
          rfl
theorem ri_0 (n : Nat) : List.replicate n (Value.int 0) = ri n (fun _ => 0) := by
  unfold ri
  apply List.ext_getElem
  · simp
  · intro i h1 h2
    simp
theorem rl_0 (n : Nat) : List.replicate n (Value.long 0) = rl n (fun _ => 0) := by
  unfold rl
  apply List.ext_getElem
  · simp
  · intro i h1 h2
    simp
def roomM (r : Int32) : Int32 := if r < 1 then 1 else if 4096 < r then 4096 else r
def inN0 (r : Int32) : NS := (fun k => if k = 1 then r else 0, fun _ => 0, fun _ _ => 0, fun _ _ => 0, 0)
def kdR (N : NS) : Nat → NS
  | 0 => N
  | q + 1 => sI (kdR N q) 7 q (-1)
def inN (r : Int32) : NS := kdR (inN0 (roomM r)) 32
