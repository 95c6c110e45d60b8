def q0S : QS := (-1, [], 0, 0, 0, 0, 0, 0, none, List.replicate 8 0)
def roomS (r : Int32) : Int32 := if 1 < (if 4096 < r then 4096 else r) then (if 4096 < r then 4096 else r) else 1
def iniS (r : Int32) : MS := (roomS r, fun _ => q0S, [], 0, [], 0, 0)
theorem q0_rep {M : ZM} {z qa la pa i : Nat} {own : Nat → Nat} {mc : Int32} (hq : M qa = some (.inr (1, fQ la pa (-1) 0 0 0 0 0 0 .null))) (hl : M la = some (.inr (6, fAL z 0 mc))) (hp : M pa = some (.inl (1, List.replicate 8 (.int 0)))) (hz : M z = some (.inl (0, []))) (o1 : own qa = i) (o2 : own la = i) (o3 : own pa = i) : QRep M z own i qa q0S :=
  ⟨la, pa, z, [], 0, .null, hq, ⟨⟨mc, hl⟩, hz, Nat.le_refl _, fun _ => rfl⟩, Nat.zero_le _, ⟨rfl, fun j e h => by simp at h, List.nodup_nil⟩, hp, rfl, Nat.le_refl _, rfl, o1, o2, o3, fun h => absurd rfl h⟩
theorem ini_set (qs : List Nat) (q i : Nat) (h : qs.length = i) (hi : i < 32) : (qs.map Value.ref ++ List.replicate (32 - i) Value.null).set i (Value.ref q) = (qs ++ [q]).map Value.ref ++ List.replicate (32 - (i + 1)) Value.null := by
  have := al_set qs q (cap := 32) (k := 0) (by omega) (by omega)
  simp only [List.replicate_zero, List.append_nil, h, List.length_append, List.length_singleton, Nat.add_zero] at this
  exact this
