/-! THE REFERENCE'S STATE: code, room, running, delayed; items, begun, delays; its int and boolean arrays, its long arrays, by their fields' places; now. -/
abbrev NS : Type := (Nat → Int32) × (Nat → Nat) × (Nat → Nat → Int32) × (Nat → Nat → Int64) × Int64
def ri (n : Nat) (f : Nat → Int32) : List Value := (List.range n).map (fun j => Value.int (f j))
def rl (n : Nat) (f : Nat → Int64) : List Value := (List.range n).map (fun j => Value.long (f j))
theorem ri_len (n : Nat) (f : Nat → Int32) : (ri n f).length = n := by simp [ri]
theorem rl_len (n : Nat) (f : Nat → Int64) : (rl n f).length = n := by simp [rl]
theorem ri_get {n j : Nat} {f : Nat → Int32} (h : j < n) : (ri n f)[j]? = some (.int (f j)) := by simp [ri, h]
theorem rl_get {n j : Nat} {f : Nat → Int64} (h : j < n) : (rl n f)[j]? = some (.long (f j)) := by simp [rl, h]
theorem ri_set (n j : Nat) (f : Nat → Int32) (v : Int32) : (ri n f).set j (.int v) = ri n (va_up f j v) := by
  apply List.ext_getElem?
  intro i
  by_cases hi : i < n
  · by_cases hij : i = j
    · subst hij
      rw [List.getElem?_set_self (by rw [ri_len]; exact hi), ri_get hi, va_up_self]
    · rw [List.getElem?_set_ne (Ne.symm hij), ri_get hi, ri_get hi, va_up_ne _ _ hij]
  · rw [List.getElem?_eq_none (by rw [List.length_set, ri_len]; omega), List.getElem?_eq_none (by rw [ri_len]; omega)]
theorem rl_set (n j : Nat) (f : Nat → Int64) (v : Int64) : (rl n f).set j (.long v) = rl n (va_up f j v) := by
  apply List.ext_getElem?
  intro i
  by_cases hi : i < n
  · by_cases hij : i = j
    · subst hij
      rw [List.getElem?_set_self (by rw [rl_len]; exact hi), rl_get hi, va_up_self]
    · rw [List.getElem?_set_ne (Ne.symm hij), rl_get hi, rl_get hi, va_up_ne _ _ hij]
  · rw [List.getElem?_eq_none (by rw [List.length_set, rl_len]; omega), List.getElem?_eq_none (by rw [rl_len]; omega)]
def sS (N : NS) (k : Nat) (v : Int32) : NS := (va_up N.1 k v, N.2)
def sN (N : NS) (k v : Nat) : NS := (N.1, va_up N.2.1 k v, N.2.2)
def sI (N : NS) (k j : Nat) (v : Int32) : NS := (N.1, N.2.1, va_up N.2.2.1 k (va_up (N.2.2.1 k) j v), N.2.2.2)
def sL (N : NS) (k j : Nat) (v : Int64) : NS := (N.1, N.2.1, N.2.2.1, va_up N.2.2.2.1 k (va_up (N.2.2.2.1 k) j v), N.2.2.2.2)
def sW (N : NS) (t : Int64) : NS := (N.1, N.2.1, N.2.2.1, N.2.2.2.1, t)
def fMo (ad : Nat → Nat) (N : NS) : List Value := [.int (N.1 0), .int (N.1 1), .ref (ad 2), .ref (ad 3), .ref (ad 4), .ref (ad 5), .int (nI (N.2.1 0)), .ref (ad 7), .ref (ad 8), .ref (ad 9), .ref (ad 10), .ref (ad 11), .ref (ad 12), .ref (ad 13), .ref (ad 14), .ref (ad 15), .ref (ad 16), .ref (ad 17), .ref (ad 18), .ref (ad 19), .int (nI (N.2.1 1)), .int (N.1 2), .long N.2.2.2.2, .ref (ad 23), .ref (ad 24), .ref (ad 25), .int (nI (N.2.1 2)), .int (N.1 3)]
def arF (k : Nat) (f : Nat → Int32) (h : Nat → Int64) : ZE := match k with
  | 3 => .inl (1, ri 1100 f)
  | 4 => .inl (1, ri 1100 f)
  | 5 => .inl (2, rl 1100 h)
  | 7 => .inl (1, ri 32 f)
  | 8 => .inl (1, ri 32 f)
  | 9 => .inl (1, ri 32 f)
  | 10 => .inl (1, ri 32 f)
  | 11 => .inl (1, ri 32 f)
  | 12 => .inl (1, ri 32 f)
  | 13 => .inl (3, ri 32 f)
  | 14 => .inl (3, ri 32 f)
  | 15 => .inl (2, rl 32 h)
  | 16 => .inl (2, rl 32 h)
  | 17 => .inl (1, ri 256 f)
  | 18 => .inl (1, ri 4000 f)
  | 19 => .inl (3, ri 4000 f)
  | 23 => .inl (1, ri 200 f)
  | 24 => .inl (1, ri 200 f)
  | 25 => .inl (2, rl 200 h)
  | _ => .inl (1, ri 1100 f)
def AKs : List Nat := [2, 3, 4, 5, 7, 8, 9, 10, 11, 12, 13, 14, 15, 16, 17, 18, 19, 23, 24, 25]
def zmo (z m : Nat) (ad : Nat → Nat) (N : NS) : ZM := fun q => if q = m then some (.inr (7, fMo ad N)) else if q = z then some (.inl (0, [])) else (AKs.find? (fun k => decide (ad k = q))).map (fun k => arF k (N.2.2.1 k) (N.2.2.2.1 k))
def zAd (z m : Nat) (ad : Nat → Nat) : Prop := m ≠ z ∧ (∀ k ∈ AKs, ad k ≠ m ∧ ad k ≠ z) ∧ ∀ k ∈ AKs, ∀ k' ∈ AKs, ad k = ad k' → k = k'
theorem zmo_m (z m : Nat) (ad : Nat → Nat) (N : NS) : zmo z m ad N m = some (.inr (7, fMo ad N)) := if_pos rfl
theorem zmo_z {z m : Nat} {ad : Nat → Nat} (hA : zAd z m ad) (N : NS) : zmo z m ad N z = some (.inl (0, [])) := by
  unfold zmo
  rw [if_neg (Ne.symm hA.1), if_pos rfl]
theorem zmo_find {z m k : Nat} {ad : Nat → Nat} (hA : zAd z m ad) (hk : k ∈ AKs) : AKs.find? (fun k' => decide (ad k' = ad k)) = some k := by
  cases hf : AKs.find? (fun k' => decide (ad k' = ad k)) with
  | none =>
    have := List.find?_eq_none.mp hf k hk
    simp at this
  | some k' =>
    have h1 := List.find?_some hf
    have h2 := List.mem_of_find?_eq_some hf
    rw [hA.2.2 k' h2 k hk (by simpa using h1)]
theorem zmo_a {z m k : Nat} {ad : Nat → Nat} (hA : zAd z m ad) (hk : k ∈ AKs) (N : NS) : zmo z m ad N (ad k) = some (arF k (N.2.2.1 k) (N.2.2.2.1 k)) := by
  unfold zmo
  rw [if_neg (hA.2.1 k hk).1, if_neg (hA.2.1 k hk).2, zmo_find hA hk]
  rfl
theorem zmo_wa {z m k : Nat} {ad : Nat → Nat} (hA : zAd z m ad) (hk : k ∈ AKs) {N N' : NS} {e : ZE} (he : e = arF k (N'.2.2.1 k) (N'.2.2.2.1 k)) (h1 : ∀ k', k' ≠ k → N'.2.2.1 k' = N.2.2.1 k' ∧ N'.2.2.2.1 k' = N.2.2.2.1 k') (h2 : fMo ad N' = fMo ad N) : zset (zmo z m ad N) (ad k) e = zmo z m ad N' := by
  funext q
  by_cases hq : q = ad k
  · rw [hq, zset_self, zmo_a hA hk, he]
  · rw [zset_ne hq]
    unfold zmo
    rw [h2]
    split
    · rfl
    · split
      · rfl
      · cases hf : AKs.find? (fun k' => decide (ad k' = q)) with
        | none => simp only [Option.map_none]
        | some k' =>
          have hk' : ad k' = q := by simpa using List.find?_some hf
          have hne : k' ≠ k := fun e => hq (by rw [← hk', e])
          simp only [Option.map_some, (h1 k' hne).1, (h1 k' hne).2]
theorem zmo_wm {z m : Nat} {ad : Nat → Nat} {N N' : NS} {fs : List Value} (h : fs = fMo ad N') (h1 : N'.2.2.1 = N.2.2.1) (h2 : N'.2.2.2.1 = N.2.2.2.1) : zset (zmo z m ad N) m (.inr (7, fs)) = zmo z m ad N' := by
  funext q
  by_cases hq : q = m
  · rw [hq, zset_self, zmo_m, h]
  · rw [zset_ne hq]
    unfold zmo
    rw [if_neg hq, if_neg hq, h1, h2]
theorem rd_2 {z m : Nat} {ad : Nat → Nat} (hA : zAd z m ad) (N : NS) : zmo z m ad N (ad 2) = some (.inl (1, ri 1100 (N.2.2.1 2))) := zmo_a hA (by decide) N
theorem wr_2 {z m : Nat} {ad : Nat → Nat} (hA : zAd z m ad) (N : NS) (j : Nat) (v : Int32) : zset (zmo z m ad N) (ad 2) (.inl (1, (ri 1100 (N.2.2.1 2)).set j (.int v))) = zmo z m ad (sI N 2 j v) := zmo_wa hA (by decide) (by rw [ri_set]; rfl) (fun k' h => ⟨va_up_ne _ _ h, rfl⟩) rfl
theorem rd_3 {z m : Nat} {ad : Nat → Nat} (hA : zAd z m ad) (N : NS) : zmo z m ad N (ad 3) = some (.inl (1, ri 1100 (N.2.2.1 3))) := zmo_a hA (by decide) N
theorem wr_3 {z m : Nat} {ad : Nat → Nat} (hA : zAd z m ad) (N : NS) (j : Nat) (v : Int32) : zset (zmo z m ad N) (ad 3) (.inl (1, (ri 1100 (N.2.2.1 3)).set j (.int v))) = zmo z m ad (sI N 3 j v) := zmo_wa hA (by decide) (by rw [ri_set]; rfl) (fun k' h => ⟨va_up_ne _ _ h, rfl⟩) rfl
theorem rd_4 {z m : Nat} {ad : Nat → Nat} (hA : zAd z m ad) (N : NS) : zmo z m ad N (ad 4) = some (.inl (1, ri 1100 (N.2.2.1 4))) := zmo_a hA (by decide) N
theorem wr_4 {z m : Nat} {ad : Nat → Nat} (hA : zAd z m ad) (N : NS) (j : Nat) (v : Int32) : zset (zmo z m ad N) (ad 4) (.inl (1, (ri 1100 (N.2.2.1 4)).set j (.int v))) = zmo z m ad (sI N 4 j v) := zmo_wa hA (by decide) (by rw [ri_set]; rfl) (fun k' h => ⟨va_up_ne _ _ h, rfl⟩) rfl
theorem rd_5 {z m : Nat} {ad : Nat → Nat} (hA : zAd z m ad) (N : NS) : zmo z m ad N (ad 5) = some (.inl (2, rl 1100 (N.2.2.2.1 5))) := zmo_a hA (by decide) N
theorem wr_5 {z m : Nat} {ad : Nat → Nat} (hA : zAd z m ad) (N : NS) (j : Nat) (v : Int64) : zset (zmo z m ad N) (ad 5) (.inl (2, (rl 1100 (N.2.2.2.1 5)).set j (.long v))) = zmo z m ad (sL N 5 j v) := zmo_wa hA (by decide) (by rw [rl_set]; rfl) (fun k' h => ⟨rfl, va_up_ne _ _ h⟩) rfl
theorem rd_7 {z m : Nat} {ad : Nat → Nat} (hA : zAd z m ad) (N : NS) : zmo z m ad N (ad 7) = some (.inl (1, ri 32 (N.2.2.1 7))) := zmo_a hA (by decide) N
theorem wr_7 {z m : Nat} {ad : Nat → Nat} (hA : zAd z m ad) (N : NS) (j : Nat) (v : Int32) : zset (zmo z m ad N) (ad 7) (.inl (1, (ri 32 (N.2.2.1 7)).set j (.int v))) = zmo z m ad (sI N 7 j v) := zmo_wa hA (by decide) (by rw [ri_set]; rfl) (fun k' h => ⟨va_up_ne _ _ h, rfl⟩) rfl
theorem rd_8 {z m : Nat} {ad : Nat → Nat} (hA : zAd z m ad) (N : NS) : zmo z m ad N (ad 8) = some (.inl (1, ri 32 (N.2.2.1 8))) := zmo_a hA (by decide) N
theorem wr_8 {z m : Nat} {ad : Nat → Nat} (hA : zAd z m ad) (N : NS) (j : Nat) (v : Int32) : zset (zmo z m ad N) (ad 8) (.inl (1, (ri 32 (N.2.2.1 8)).set j (.int v))) = zmo z m ad (sI N 8 j v) := zmo_wa hA (by decide) (by rw [ri_set]; rfl) (fun k' h => ⟨va_up_ne _ _ h, rfl⟩) rfl
theorem rd_9 {z m : Nat} {ad : Nat → Nat} (hA : zAd z m ad) (N : NS) : zmo z m ad N (ad 9) = some (.inl (1, ri 32 (N.2.2.1 9))) := zmo_a hA (by decide) N
theorem wr_9 {z m : Nat} {ad : Nat → Nat} (hA : zAd z m ad) (N : NS) (j : Nat) (v : Int32) : zset (zmo z m ad N) (ad 9) (.inl (1, (ri 32 (N.2.2.1 9)).set j (.int v))) = zmo z m ad (sI N 9 j v) := zmo_wa hA (by decide) (by rw [ri_set]; rfl) (fun k' h => ⟨va_up_ne _ _ h, rfl⟩) rfl
theorem rd_10 {z m : Nat} {ad : Nat → Nat} (hA : zAd z m ad) (N : NS) : zmo z m ad N (ad 10) = some (.inl (1, ri 32 (N.2.2.1 10))) := zmo_a hA (by decide) N
theorem wr_10 {z m : Nat} {ad : Nat → Nat} (hA : zAd z m ad) (N : NS) (j : Nat) (v : Int32) : zset (zmo z m ad N) (ad 10) (.inl (1, (ri 32 (N.2.2.1 10)).set j (.int v))) = zmo z m ad (sI N 10 j v) := zmo_wa hA (by decide) (by rw [ri_set]; rfl) (fun k' h => ⟨va_up_ne _ _ h, rfl⟩) rfl
theorem rd_11 {z m : Nat} {ad : Nat → Nat} (hA : zAd z m ad) (N : NS) : zmo z m ad N (ad 11) = some (.inl (1, ri 32 (N.2.2.1 11))) := zmo_a hA (by decide) N
theorem wr_11 {z m : Nat} {ad : Nat → Nat} (hA : zAd z m ad) (N : NS) (j : Nat) (v : Int32) : zset (zmo z m ad N) (ad 11) (.inl (1, (ri 32 (N.2.2.1 11)).set j (.int v))) = zmo z m ad (sI N 11 j v) := zmo_wa hA (by decide) (by rw [ri_set]; rfl) (fun k' h => ⟨va_up_ne _ _ h, rfl⟩) rfl
theorem rd_12 {z m : Nat} {ad : Nat → Nat} (hA : zAd z m ad) (N : NS) : zmo z m ad N (ad 12) = some (.inl (1, ri 32 (N.2.2.1 12))) := zmo_a hA (by decide) N
theorem wr_12 {z m : Nat} {ad : Nat → Nat} (hA : zAd z m ad) (N : NS) (j : Nat) (v : Int32) : zset (zmo z m ad N) (ad 12) (.inl (1, (ri 32 (N.2.2.1 12)).set j (.int v))) = zmo z m ad (sI N 12 j v) := zmo_wa hA (by decide) (by rw [ri_set]; rfl) (fun k' h => ⟨va_up_ne _ _ h, rfl⟩) rfl
theorem rd_13 {z m : Nat} {ad : Nat → Nat} (hA : zAd z m ad) (N : NS) : zmo z m ad N (ad 13) = some (.inl (3, ri 32 (N.2.2.1 13))) := zmo_a hA (by decide) N
theorem wr_13 {z m : Nat} {ad : Nat → Nat} (hA : zAd z m ad) (N : NS) (j : Nat) (v : Int32) : zset (zmo z m ad N) (ad 13) (.inl (3, (ri 32 (N.2.2.1 13)).set j (.int v))) = zmo z m ad (sI N 13 j v) := zmo_wa hA (by decide) (by rw [ri_set]; rfl) (fun k' h => ⟨va_up_ne _ _ h, rfl⟩) rfl
theorem rd_14 {z m : Nat} {ad : Nat → Nat} (hA : zAd z m ad) (N : NS) : zmo z m ad N (ad 14) = some (.inl (3, ri 32 (N.2.2.1 14))) := zmo_a hA (by decide) N
theorem wr_14 {z m : Nat} {ad : Nat → Nat} (hA : zAd z m ad) (N : NS) (j : Nat) (v : Int32) : zset (zmo z m ad N) (ad 14) (.inl (3, (ri 32 (N.2.2.1 14)).set j (.int v))) = zmo z m ad (sI N 14 j v) := zmo_wa hA (by decide) (by rw [ri_set]; rfl) (fun k' h => ⟨va_up_ne _ _ h, rfl⟩) rfl
theorem rd_15 {z m : Nat} {ad : Nat → Nat} (hA : zAd z m ad) (N : NS) : zmo z m ad N (ad 15) = some (.inl (2, rl 32 (N.2.2.2.1 15))) := zmo_a hA (by decide) N
theorem wr_15 {z m : Nat} {ad : Nat → Nat} (hA : zAd z m ad) (N : NS) (j : Nat) (v : Int64) : zset (zmo z m ad N) (ad 15) (.inl (2, (rl 32 (N.2.2.2.1 15)).set j (.long v))) = zmo z m ad (sL N 15 j v) := zmo_wa hA (by decide) (by rw [rl_set]; rfl) (fun k' h => ⟨rfl, va_up_ne _ _ h⟩) rfl
theorem rd_16 {z m : Nat} {ad : Nat → Nat} (hA : zAd z m ad) (N : NS) : zmo z m ad N (ad 16) = some (.inl (2, rl 32 (N.2.2.2.1 16))) := zmo_a hA (by decide) N
theorem wr_16 {z m : Nat} {ad : Nat → Nat} (hA : zAd z m ad) (N : NS) (j : Nat) (v : Int64) : zset (zmo z m ad N) (ad 16) (.inl (2, (rl 32 (N.2.2.2.1 16)).set j (.long v))) = zmo z m ad (sL N 16 j v) := zmo_wa hA (by decide) (by rw [rl_set]; rfl) (fun k' h => ⟨rfl, va_up_ne _ _ h⟩) rfl
theorem rd_17 {z m : Nat} {ad : Nat → Nat} (hA : zAd z m ad) (N : NS) : zmo z m ad N (ad 17) = some (.inl (1, ri 256 (N.2.2.1 17))) := zmo_a hA (by decide) N
theorem wr_17 {z m : Nat} {ad : Nat → Nat} (hA : zAd z m ad) (N : NS) (j : Nat) (v : Int32) : zset (zmo z m ad N) (ad 17) (.inl (1, (ri 256 (N.2.2.1 17)).set j (.int v))) = zmo z m ad (sI N 17 j v) := zmo_wa hA (by decide) (by rw [ri_set]; rfl) (fun k' h => ⟨va_up_ne _ _ h, rfl⟩) rfl
theorem rd_18 {z m : Nat} {ad : Nat → Nat} (hA : zAd z m ad) (N : NS) : zmo z m ad N (ad 18) = some (.inl (1, ri 4000 (N.2.2.1 18))) := zmo_a hA (by decide) N
theorem wr_18 {z m : Nat} {ad : Nat → Nat} (hA : zAd z m ad) (N : NS) (j : Nat) (v : Int32) : zset (zmo z m ad N) (ad 18) (.inl (1, (ri 4000 (N.2.2.1 18)).set j (.int v))) = zmo z m ad (sI N 18 j v) := zmo_wa hA (by decide) (by rw [ri_set]; rfl) (fun k' h => ⟨va_up_ne _ _ h, rfl⟩) rfl
theorem rd_19 {z m : Nat} {ad : Nat → Nat} (hA : zAd z m ad) (N : NS) : zmo z m ad N (ad 19) = some (.inl (3, ri 4000 (N.2.2.1 19))) := zmo_a hA (by decide) N
theorem wr_19 {z m : Nat} {ad : Nat → Nat} (hA : zAd z m ad) (N : NS) (j : Nat) (v : Int32) : zset (zmo z m ad N) (ad 19) (.inl (3, (ri 4000 (N.2.2.1 19)).set j (.int v))) = zmo z m ad (sI N 19 j v) := zmo_wa hA (by decide) (by rw [ri_set]; rfl) (fun k' h => ⟨va_up_ne _ _ h, rfl⟩) rfl
theorem rd_23 {z m : Nat} {ad : Nat → Nat} (hA : zAd z m ad) (N : NS) : zmo z m ad N (ad 23) = some (.inl (1, ri 200 (N.2.2.1 23))) := zmo_a hA (by decide) N
theorem wr_23 {z m : Nat} {ad : Nat → Nat} (hA : zAd z m ad) (N : NS) (j : Nat) (v : Int32) : zset (zmo z m ad N) (ad 23) (.inl (1, (ri 200 (N.2.2.1 23)).set j (.int v))) = zmo z m ad (sI N 23 j v) := zmo_wa hA (by decide) (by rw [ri_set]; rfl) (fun k' h => ⟨va_up_ne _ _ h, rfl⟩) rfl
theorem rd_24 {z m : Nat} {ad : Nat → Nat} (hA : zAd z m ad) (N : NS) : zmo z m ad N (ad 24) = some (.inl (1, ri 200 (N.2.2.1 24))) := zmo_a hA (by decide) N
theorem wr_24 {z m : Nat} {ad : Nat → Nat} (hA : zAd z m ad) (N : NS) (j : Nat) (v : Int32) : zset (zmo z m ad N) (ad 24) (.inl (1, (ri 200 (N.2.2.1 24)).set j (.int v))) = zmo z m ad (sI N 24 j v) := zmo_wa hA (by decide) (by rw [ri_set]; rfl) (fun k' h => ⟨va_up_ne _ _ h, rfl⟩) rfl
theorem rd_25 {z m : Nat} {ad : Nat → Nat} (hA : zAd z m ad) (N : NS) : zmo z m ad N (ad 25) = some (.inl (2, rl 200 (N.2.2.2.1 25))) := zmo_a hA (by decide) N
theorem wr_25 {z m : Nat} {ad : Nat → Nat} (hA : zAd z m ad) (N : NS) (j : Nat) (v : Int64) : zset (zmo z m ad N) (ad 25) (.inl (2, (rl 200 (N.2.2.2.1 25)).set j (.long v))) = zmo z m ad (sL N 25 j v) := zmo_wa hA (by decide) (by rw [rl_set]; rfl) (fun k' h => ⟨rfl, va_up_ne _ _ h⟩) rfl
theorem ws_0 {z m : Nat} {ad : Nat → Nat} (N : NS) (v : Int32) : zset (zmo z m ad N) m (.inr (7, (fMo ad N).set 0 (.int v))) = zmo z m ad (sS N 0 v) := zmo_wm rfl rfl rfl
theorem ws_1 {z m : Nat} {ad : Nat → Nat} (N : NS) (v : Int32) : zset (zmo z m ad N) m (.inr (7, (fMo ad N).set 1 (.int v))) = zmo z m ad (sS N 1 v) := zmo_wm rfl rfl rfl
theorem ws_21 {z m : Nat} {ad : Nat → Nat} (N : NS) (v : Int32) : zset (zmo z m ad N) m (.inr (7, (fMo ad N).set 21 (.int v))) = zmo z m ad (sS N 2 v) := zmo_wm rfl rfl rfl
theorem ws_27 {z m : Nat} {ad : Nat → Nat} (N : NS) (v : Int32) : zset (zmo z m ad N) m (.inr (7, (fMo ad N).set 27 (.int v))) = zmo z m ad (sS N 3 v) := zmo_wm rfl rfl rfl
theorem ws_6 {z m : Nat} {ad : Nat → Nat} (N : NS) (v : Nat) : zset (zmo z m ad N) m (.inr (7, (fMo ad N).set 6 (.int (nI v)))) = zmo z m ad (sN N 0 v) := zmo_wm rfl rfl rfl
theorem ws_20 {z m : Nat} {ad : Nat → Nat} (N : NS) (v : Nat) : zset (zmo z m ad N) m (.inr (7, (fMo ad N).set 20 (.int (nI v)))) = zmo z m ad (sN N 1 v) := zmo_wm rfl rfl rfl
theorem ws_26 {z m : Nat} {ad : Nat → Nat} (N : NS) (v : Nat) : zset (zmo z m ad N) m (.inr (7, (fMo ad N).set 26 (.int (nI v)))) = zmo z m ad (sN N 2 v) := zmo_wm rfl rfl rfl
theorem ws_22 {z m : Nat} {ad : Nat → Nat} (N : NS) (v : Int64) : zset (zmo z m ad N) m (.inr (7, (fMo ad N).set 22 (.long v))) = zmo z m ad (sW N v) := zmo_wm rfl rfl rfl
theorem nI_pd {n : Nat} (h : 0 < n) : nI n - 1 = nI (n - 1) := by
  have := nI_pred (n - 1)
  rwa [show n - 1 + 1 = n by omega] at this
theorem nI_mul (a b : Nat) : nI a * nI b = nI (a * b) := (Int32.ofNat_mul a b).symm
theorem nI_dec {n : Nat} (h : 0 < n) : nI n + Int32.ofInt (-1) = nI (n - 1) := by
  rw [← nI_pd h, Int32.sub_eq_add_neg]
  rfl
