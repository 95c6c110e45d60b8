set_option maxHeartbeats 4000000 in
set_option maxRecDepth 100000 in
theorem t_Mo_putting (g : ZG) (k0 : ZK) (m : Nat) (ad : Nat → Nat) (N : NS) (i : Nat) (k : Int32) (v : Int64) (u s : Int32) (hA : zAd g.2.2.2.1 m ad) (hi : i < 32) (hit : N.2.1 0 < 1100) (hs : s = if kProt k then 1 else 0) (b1 : ¬ puB k u) (b2 : ¬ puK N i k) (b3 : ¬ puL N i k u) (b4 : nI (N.2.1 0) < N.1 1) : ZW vcl tlx GT "MonitorQueuesModel" b_Mo_putting 7 (Option.some FieldType.int) "putting" (ZRm 2 0 0) g k0 (fun r M' => r = some (.int (puM N i k v u).1) ∧ M' = zmo g.2.2.2.1 m ad ((puM N i k v u).2)) [some (.ref m), some (.int (nI i)), some (.int k), some (.long v), none, some (.int u), some (.int s)] 121 [] (zmo g.2.2.2.1 m ad N) 0 0 := by
  have hF : puM N i k v u = (puNum N i k v u, sL (sI (puM6 N i k v u) 3 (N.2.1 0) (puNum N i k v u)) 15 i N.2.2.2.2) := by unfold puM; rw [if_neg b1, if_neg b2, if_neg b3, if_neg (not_not_intro b4)]
  by_cases hk1 : k ≤ 1
  · by_cases hpr : kProt k
    · rw [if_pos hpr] at hs
      subst hs
      refine z_aload_n d_Mo_putting_121 rfl ?_
      refine z_get d_Mo_putting_122 zf_Mo_23 (zmo_m _ _ _ _) rfl ?_
      refine z_iload_n d_Mo_putting_125 rfl ?_
      refine z_iload_n d_Mo_putting_126 rfl ?_
      refine z_iast d_Mo_putting_127 (rd_7 hA _) rfl (by first | omega | (dsimp only [sI, sL, sS, sN, sW]; omega) | (simp only [sI, sL, sS, sN, sW, va_up_self]; omega) | (simp [sI, sL, sS, sN, sW, va_up]; omega)) (by rw [ri_len]; exact (by first | omega | (dsimp only [sI, sL, sS, sN, sW]; omega) | (simp only [sI, sL, sS, sN, sW, va_up_self]; omega) | (simp [sI, sL, sS, sN, sW, va_up]; omega))) ?_
      rw [wr_7 hA]
      refine z_aload_n d_Mo_putting_128 rfl ?_
      refine z_get d_Mo_putting_129 zf_Mo_26 (zmo_m _ _ _ _) rfl ?_
      refine z_iload_n d_Mo_putting_132 rfl ?_
      refine z_iload_n d_Mo_putting_133 rfl ?_
      refine z_iconst (v := 1) d_Mo_putting_134 (by decide) ?_
      refine z_icmp_le (tgt := 149) d_Mo_putting_135 (by decide) (fun h135 => ?_) (fun h135 => False.elim (h135 hk1))
      refine z_aload_n d_Mo_putting_149 rfl ?_
      refine z_get d_Mo_putting_150 zf_Mo_26 (zmo_m _ _ _ _) rfl ?_
      refine z_iload_n d_Mo_putting_153 rfl ?_
      refine z_iald d_Mo_putting_154 (rd_8 hA _) rfl (by first | omega | (dsimp only [sI, sL, sS, sN, sW]; omega) | (simp only [sI, sL, sS, sN, sW, va_up_self]; omega) | (simp [sI, sL, sS, sN, sW, va_up]; omega)) (ri_get (by first | omega | (dsimp only [sI, sL, sS, sN, sW]; omega) | (simp only [sI, sL, sS, sN, sW, va_up_self]; omega) | (simp [sI, sL, sS, sN, sW, va_up]; omega))) ?_
      refine z_iast d_Mo_putting_155 (rd_8 hA _) rfl (by first | omega | (dsimp only [sI, sL, sS, sN, sW]; omega) | (simp only [sI, sL, sS, sN, sW, va_up_self]; omega) | (simp [sI, sL, sS, sN, sW, va_up]; omega)) (by rw [ri_len]; exact (by first | omega | (dsimp only [sI, sL, sS, sN, sW]; omega) | (simp only [sI, sL, sS, sN, sW, va_up_self]; omega) | (simp [sI, sL, sS, sN, sW, va_up]; omega))) ?_
      rw [wr_8 hA]
      rw [show sI (sI N 7 i k) 8 i ((sI N 7 i k).2.2.1 8 i) = puM2 N i k by unfold puM2; rw [if_pos hk1]]
      refine z_aload_n d_Mo_putting_156 rfl ?_
      refine z_get d_Mo_putting_157 zf_Mo_7 (zmo_m _ _ _ _) rfl ?_
      refine z_aload_n d_Mo_putting_160 rfl ?_
      refine z_get d_Mo_putting_161 zf_Mo_79 (zmo_m _ _ _ _) rfl ?_
      rw [show nI ((puM2 N i k).2.1 0) = nI (N.2.1 0) from rfl]
      refine z_iload_n d_Mo_putting_164 rfl ?_
      refine z_iast d_Mo_putting_165 (rd_2 hA _) rfl (by first | omega | (dsimp only [sI, sL, sS, sN, sW]; omega) | (simp only [sI, sL, sS, sN, sW, va_up_self]; omega) | (simp [sI, sL, sS, sN, sW, va_up]; omega)) (by rw [ri_len]; exact (by first | omega | (dsimp only [sI, sL, sS, sN, sW]; omega) | (simp only [sI, sL, sS, sN, sW, va_up_self]; omega) | (simp [sI, sL, sS, sN, sW, va_up]; omega))) ?_
      rw [wr_2 hA]
      refine z_aload_n d_Mo_putting_166 rfl ?_
      refine z_get d_Mo_putting_167 zf_Mo_19 (zmo_m _ _ _ _) rfl ?_
      refine z_aload_n d_Mo_putting_170 rfl ?_
      refine z_get d_Mo_putting_171 zf_Mo_79 (zmo_m _ _ _ _) rfl ?_
      rw [show nI ((sI (puM2 N i k) 2 (N.2.1 0) (nI i)).2.1 0) = nI (N.2.1 0) from rfl]
      refine z_lload_n d_Mo_putting_174 rfl ?_
      refine z_last d_Mo_putting_175 (rd_5 hA _) rfl (by first | omega | (dsimp only [sI, sL, sS, sN, sW]; omega) | (simp only [sI, sL, sS, sN, sW, va_up_self]; omega) | (simp [sI, sL, sS, sN, sW, va_up]; omega)) (by rw [rl_len]; exact (by first | omega | (dsimp only [sI, sL, sS, sN, sW]; omega) | (simp only [sI, sL, sS, sN, sW, va_up_self]; omega) | (simp [sI, sL, sS, sN, sW, va_up]; omega))) ?_
      rw [wr_5 hA]
      refine z_aload_n d_Mo_putting_176 rfl ?_
      refine z_get d_Mo_putting_177 zf_Mo_16 (zmo_m _ _ _ _) rfl ?_
      refine z_aload_n d_Mo_putting_180 rfl ?_
      refine z_get d_Mo_putting_181 zf_Mo_79 (zmo_m _ _ _ _) rfl ?_
      rw [show nI ((sL (sI (puM2 N i k) 2 (N.2.1 0) (nI i)) 5 (N.2.1 0) v).2.1 0) = nI (N.2.1 0) from rfl]
      refine z_iload d_Mo_putting_184 rfl ?_
      refine z_if_eq (tgt := 194) d_Mo_putting_186 (by decide) (fun h186 => False.elim (absurd h186 (by decide))) (fun h186 => ?_)
      refine z_iload d_Mo_putting_189 rfl ?_
      refine z_goto (tgt := 195) d_Mo_putting_191 (by decide) ?_
      refine z_iast d_Mo_putting_195 (rd_4 hA _) rfl (by first | omega | (dsimp only [sI, sL, sS, sN, sW]; omega) | (simp only [sI, sL, sS, sN, sW, va_up_self]; omega) | (simp [sI, sL, sS, sN, sW, va_up]; omega)) (by rw [ri_len]; exact (by first | omega | (dsimp only [sI, sL, sS, sN, sW]; omega) | (simp only [sI, sL, sS, sN, sW, va_up_self]; omega) | (simp [sI, sL, sS, sN, sW, va_up]; omega))) ?_
      rw [wr_4 hA]
      refine z_aload_n d_Mo_putting_196 rfl ?_
      refine z_dup d_Mo_putting_197 rfl ?_
      refine z_get d_Mo_putting_198 zf_Mo_79 (zmo_m _ _ _ _) rfl ?_
      refine z_iconst (v := 1) d_Mo_putting_201 (by decide) ?_
      refine z_iadd d_Mo_putting_202 ?_
      rw [show nI ((sI (sL (sI (puM2 N i k) 2 (N.2.1 0) (nI i)) 5 (N.2.1 0) v) 4 (N.2.1 0) (u)).2.1 0) + 1 = nI (N.2.1 0 + 1) from nI_1 _]
      refine z_put d_Mo_putting_203 zp_Mo_79 (zmo_m _ _ _ _) rfl rfl ?_
      rw [ws_6]
      rw [show sN (sI (sL (sI (puM2 N i k) 2 (N.2.1 0) (nI i)) 5 (N.2.1 0) v) 4 (N.2.1 0) (u)) 0 (N.2.1 0 + 1) = puM6 N i k v u by unfold puM6; rw [if_pos hpr]]
      have h60 : (puM6 N i k v u).2.1 0 = N.2.1 0 + 1 := by simp [puM6, sN, va_up]
      refine z_aload_n d_Mo_putting_206 rfl ?_
      refine z_get d_Mo_putting_207 zf_Mo_13 (zmo_m _ _ _ _) rfl ?_
      refine z_aload_n d_Mo_putting_210 rfl ?_
      refine z_get d_Mo_putting_211 zf_Mo_79 (zmo_m _ _ _ _) rfl ?_
      refine z_iconst (v := 1) d_Mo_putting_214 (by decide) ?_
      refine z_isub d_Mo_putting_215 ?_
      rw [show nI ((puM6 N i k v u).2.1 0) - 1 = nI (N.2.1 0) by rw [h60, nI_pred]]
      refine z_iload_n d_Mo_putting_216 rfl ?_
      refine z_iconst (v := 1) d_Mo_putting_217 (by decide) ?_
      refine z_icmp_le (tgt := 230) d_Mo_putting_218 (by decide) (fun h218 => ?_) (fun h218 => False.elim (h218 hk1))
      refine z_aload_n d_Mo_putting_230 rfl ?_
      refine z_iload_n d_Mo_putting_231 rfl ?_
      refine z_callV gt_good d_Mo_putting_232 zv_Mo_82 (zmo_m _ _ _ _) rfl (fun l => c_Mo_many l g m ad (puM6 N i k v u) (nI i) hA (by omega)) rfl rfl ⟨Nat.le_of_ble_eq_true rfl, Nat.le_of_ble_eq_true rfl⟩ (Nat.le_of_ble_eq_true rfl) (Nat.le_of_ble_eq_true rfl) (Nat.le_of_ble_eq_true rfl) ?_
      rintro _ _ ⟨rfl, rfl⟩
      rw [h60]
      rw [show nI (mnN (puM6 N i k v u) (nI i) (N.2.1 0 + 1)) = puNum N i k v u by unfold puNum; rw [if_pos hk1]]
      refine z_iast d_Mo_putting_235 (rd_3 hA _) rfl (by first | omega | (dsimp only [sI, sL, sS, sN, sW]; omega) | (simp only [sI, sL, sS, sN, sW, va_up_self]; omega) | (simp [sI, sL, sS, sN, sW, va_up]; omega)) (by rw [ri_len]; exact (by first | omega | (dsimp only [sI, sL, sS, sN, sW]; omega) | (simp only [sI, sL, sS, sN, sW, va_up_self]; omega) | (simp [sI, sL, sS, sN, sW, va_up]; omega))) ?_
      rw [wr_3 hA]
      refine z_aload_n d_Mo_putting_236 rfl ?_
      refine z_get d_Mo_putting_237 zf_Mo_48 (zmo_m _ _ _ _) rfl ?_
      refine z_iload_n d_Mo_putting_240 rfl ?_
      refine z_aload_n d_Mo_putting_241 rfl ?_
      refine z_get d_Mo_putting_242 zf_Mo_112 (zmo_m _ _ _ _) rfl ?_
      rw [show (sI (puM6 N i k v u) 3 (N.2.1 0) (puNum N i k v u)).2.2.2.2 = N.2.2.2.2 from rfl]
      refine z_last d_Mo_putting_245 (rd_15 hA _) rfl (by first | omega | (dsimp only [sI, sL, sS, sN, sW]; omega) | (simp only [sI, sL, sS, sN, sW, va_up_self]; omega) | (simp [sI, sL, sS, sN, sW, va_up]; omega)) (by rw [rl_len]; exact (by first | omega | (dsimp only [sI, sL, sS, sN, sW]; omega) | (simp only [sI, sL, sS, sN, sW, va_up_self]; omega) | (simp [sI, sL, sS, sN, sW, va_up]; omega))) ?_
      rw [wr_15 hA]
      refine z_aload_n d_Mo_putting_246 rfl ?_
      refine z_get d_Mo_putting_247 zf_Mo_13 (zmo_m _ _ _ _) rfl ?_
      refine z_aload_n d_Mo_putting_250 rfl ?_
      refine z_get d_Mo_putting_251 zf_Mo_79 (zmo_m _ _ _ _) rfl ?_
      refine z_iconst (v := 1) d_Mo_putting_254 (by decide) ?_
      refine z_isub d_Mo_putting_255 ?_
      rw [show nI ((sL (sI (puM6 N i k v u) 3 (N.2.1 0) (puNum N i k v u)) 15 i N.2.2.2.2).2.1 0) - 1 = nI (N.2.1 0) by rw [show (sL (sI (puM6 N i k v u) 3 (N.2.1 0) (puNum N i k v u)) 15 i N.2.2.2.2).2.1 0 = N.2.1 0 + 1 from h60, nI_pred]]
      refine z_iald d_Mo_putting_256 (rd_3 hA _) rfl (by first | omega | (dsimp only [sI, sL, sS, sN, sW]; omega) | (simp only [sI, sL, sS, sN, sW, va_up_self]; omega) | (simp [sI, sL, sS, sN, sW, va_up]; omega)) (ri_get (by first | omega | (dsimp only [sI, sL, sS, sN, sW]; omega) | (simp only [sI, sL, sS, sN, sW, va_up_self]; omega) | (simp [sI, sL, sS, sN, sW, va_up]; omega))) ?_
      refine z_ireturn d_Mo_putting_257 rfl ?_ (by decide) (by decide)
      rw [hF]
      exact ⟨congrArg (fun x => some (Value.int x)) (show va_up ((puM6 N i k v u).2.2.1) 3 (va_up ((puM6 N i k v u).2.2.1 3) (N.2.1 0) (puNum N i k v u)) 3 (N.2.1 0) = _ from by rw [va_up_self, va_up_self]), rfl⟩
    · rw [if_neg hpr] at hs
      subst hs
      refine z_aload_n d_Mo_putting_121 rfl ?_
      refine z_get d_Mo_putting_122 zf_Mo_23 (zmo_m _ _ _ _) rfl ?_
      refine z_iload_n d_Mo_putting_125 rfl ?_
      refine z_iload_n d_Mo_putting_126 rfl ?_
      refine z_iast d_Mo_putting_127 (rd_7 hA _) rfl (by first | omega | (dsimp only [sI, sL, sS, sN, sW]; omega) | (simp only [sI, sL, sS, sN, sW, va_up_self]; omega) | (simp [sI, sL, sS, sN, sW, va_up]; omega)) (by rw [ri_len]; exact (by first | omega | (dsimp only [sI, sL, sS, sN, sW]; omega) | (simp only [sI, sL, sS, sN, sW, va_up_self]; omega) | (simp [sI, sL, sS, sN, sW, va_up]; omega))) ?_
      rw [wr_7 hA]
      refine z_aload_n d_Mo_putting_128 rfl ?_
      refine z_get d_Mo_putting_129 zf_Mo_26 (zmo_m _ _ _ _) rfl ?_
      refine z_iload_n d_Mo_putting_132 rfl ?_
      refine z_iload_n d_Mo_putting_133 rfl ?_
      refine z_iconst (v := 1) d_Mo_putting_134 (by decide) ?_
      refine z_icmp_le (tgt := 149) d_Mo_putting_135 (by decide) (fun h135 => ?_) (fun h135 => False.elim (h135 hk1))
      refine z_aload_n d_Mo_putting_149 rfl ?_
      refine z_get d_Mo_putting_150 zf_Mo_26 (zmo_m _ _ _ _) rfl ?_
      refine z_iload_n d_Mo_putting_153 rfl ?_
      refine z_iald d_Mo_putting_154 (rd_8 hA _) rfl (by first | omega | (dsimp only [sI, sL, sS, sN, sW]; omega) | (simp only [sI, sL, sS, sN, sW, va_up_self]; omega) | (simp [sI, sL, sS, sN, sW, va_up]; omega)) (ri_get (by first | omega | (dsimp only [sI, sL, sS, sN, sW]; omega) | (simp only [sI, sL, sS, sN, sW, va_up_self]; omega) | (simp [sI, sL, sS, sN, sW, va_up]; omega))) ?_
      refine z_iast d_Mo_putting_155 (rd_8 hA _) rfl (by first | omega | (dsimp only [sI, sL, sS, sN, sW]; omega) | (simp only [sI, sL, sS, sN, sW, va_up_self]; omega) | (simp [sI, sL, sS, sN, sW, va_up]; omega)) (by rw [ri_len]; exact (by first | omega | (dsimp only [sI, sL, sS, sN, sW]; omega) | (simp only [sI, sL, sS, sN, sW, va_up_self]; omega) | (simp [sI, sL, sS, sN, sW, va_up]; omega))) ?_
      rw [wr_8 hA]
      rw [show sI (sI N 7 i k) 8 i ((sI N 7 i k).2.2.1 8 i) = puM2 N i k by unfold puM2; rw [if_pos hk1]]
      refine z_aload_n d_Mo_putting_156 rfl ?_
      refine z_get d_Mo_putting_157 zf_Mo_7 (zmo_m _ _ _ _) rfl ?_
      refine z_aload_n d_Mo_putting_160 rfl ?_
      refine z_get d_Mo_putting_161 zf_Mo_79 (zmo_m _ _ _ _) rfl ?_
      rw [show nI ((puM2 N i k).2.1 0) = nI (N.2.1 0) from rfl]
      refine z_iload_n d_Mo_putting_164 rfl ?_
      refine z_iast d_Mo_putting_165 (rd_2 hA _) rfl (by first | omega | (dsimp only [sI, sL, sS, sN, sW]; omega) | (simp only [sI, sL, sS, sN, sW, va_up_self]; omega) | (simp [sI, sL, sS, sN, sW, va_up]; omega)) (by rw [ri_len]; exact (by first | omega | (dsimp only [sI, sL, sS, sN, sW]; omega) | (simp only [sI, sL, sS, sN, sW, va_up_self]; omega) | (simp [sI, sL, sS, sN, sW, va_up]; omega))) ?_
      rw [wr_2 hA]
      refine z_aload_n d_Mo_putting_166 rfl ?_
      refine z_get d_Mo_putting_167 zf_Mo_19 (zmo_m _ _ _ _) rfl ?_
      refine z_aload_n d_Mo_putting_170 rfl ?_
      refine z_get d_Mo_putting_171 zf_Mo_79 (zmo_m _ _ _ _) rfl ?_
      rw [show nI ((sI (puM2 N i k) 2 (N.2.1 0) (nI i)).2.1 0) = nI (N.2.1 0) from rfl]
      refine z_lload_n d_Mo_putting_174 rfl ?_
      refine z_last d_Mo_putting_175 (rd_5 hA _) rfl (by first | omega | (dsimp only [sI, sL, sS, sN, sW]; omega) | (simp only [sI, sL, sS, sN, sW, va_up_self]; omega) | (simp [sI, sL, sS, sN, sW, va_up]; omega)) (by rw [rl_len]; exact (by first | omega | (dsimp only [sI, sL, sS, sN, sW]; omega) | (simp only [sI, sL, sS, sN, sW, va_up_self]; omega) | (simp [sI, sL, sS, sN, sW, va_up]; omega))) ?_
      rw [wr_5 hA]
      refine z_aload_n d_Mo_putting_176 rfl ?_
      refine z_get d_Mo_putting_177 zf_Mo_16 (zmo_m _ _ _ _) rfl ?_
      refine z_aload_n d_Mo_putting_180 rfl ?_
      refine z_get d_Mo_putting_181 zf_Mo_79 (zmo_m _ _ _ _) rfl ?_
      rw [show nI ((sL (sI (puM2 N i k) 2 (N.2.1 0) (nI i)) 5 (N.2.1 0) v).2.1 0) = nI (N.2.1 0) from rfl]
      refine z_iload d_Mo_putting_184 rfl ?_
      refine z_if_eq (tgt := 194) d_Mo_putting_186 (by decide) (fun h186 => ?_) (fun h186 => False.elim (h186 rfl))
      refine z_iconst (v := 0) d_Mo_putting_194 (by decide) ?_
      refine z_iast d_Mo_putting_195 (rd_4 hA _) rfl (by first | omega | (dsimp only [sI, sL, sS, sN, sW]; omega) | (simp only [sI, sL, sS, sN, sW, va_up_self]; omega) | (simp [sI, sL, sS, sN, sW, va_up]; omega)) (by rw [ri_len]; exact (by first | omega | (dsimp only [sI, sL, sS, sN, sW]; omega) | (simp only [sI, sL, sS, sN, sW, va_up_self]; omega) | (simp [sI, sL, sS, sN, sW, va_up]; omega))) ?_
      rw [wr_4 hA]
      refine z_aload_n d_Mo_putting_196 rfl ?_
      refine z_dup d_Mo_putting_197 rfl ?_
      refine z_get d_Mo_putting_198 zf_Mo_79 (zmo_m _ _ _ _) rfl ?_
      refine z_iconst (v := 1) d_Mo_putting_201 (by decide) ?_
      refine z_iadd d_Mo_putting_202 ?_
      rw [show nI ((sI (sL (sI (puM2 N i k) 2 (N.2.1 0) (nI i)) 5 (N.2.1 0) v) 4 (N.2.1 0) (0)).2.1 0) + 1 = nI (N.2.1 0 + 1) from nI_1 _]
      refine z_put d_Mo_putting_203 zp_Mo_79 (zmo_m _ _ _ _) rfl rfl ?_
      rw [ws_6]
      rw [show sN (sI (sL (sI (puM2 N i k) 2 (N.2.1 0) (nI i)) 5 (N.2.1 0) v) 4 (N.2.1 0) (0)) 0 (N.2.1 0 + 1) = puM6 N i k v u by unfold puM6; rw [if_neg hpr]]
      have h60 : (puM6 N i k v u).2.1 0 = N.2.1 0 + 1 := by simp [puM6, sN, va_up]
      refine z_aload_n d_Mo_putting_206 rfl ?_
      refine z_get d_Mo_putting_207 zf_Mo_13 (zmo_m _ _ _ _) rfl ?_
      refine z_aload_n d_Mo_putting_210 rfl ?_
      refine z_get d_Mo_putting_211 zf_Mo_79 (zmo_m _ _ _ _) rfl ?_
      refine z_iconst (v := 1) d_Mo_putting_214 (by decide) ?_
      refine z_isub d_Mo_putting_215 ?_
      rw [show nI ((puM6 N i k v u).2.1 0) - 1 = nI (N.2.1 0) by rw [h60, nI_pred]]
      refine z_iload_n d_Mo_putting_216 rfl ?_
      refine z_iconst (v := 1) d_Mo_putting_217 (by decide) ?_
      refine z_icmp_le (tgt := 230) d_Mo_putting_218 (by decide) (fun h218 => ?_) (fun h218 => False.elim (h218 hk1))
      refine z_aload_n d_Mo_putting_230 rfl ?_
      refine z_iload_n d_Mo_putting_231 rfl ?_
      refine z_callV gt_good d_Mo_putting_232 zv_Mo_82 (zmo_m _ _ _ _) rfl (fun l => c_Mo_many l g m ad (puM6 N i k v u) (nI i) hA (by omega)) rfl rfl ⟨Nat.le_of_ble_eq_true rfl, Nat.le_of_ble_eq_true rfl⟩ (Nat.le_of_ble_eq_true rfl) (Nat.le_of_ble_eq_true rfl) (Nat.le_of_ble_eq_true rfl) ?_
      rintro _ _ ⟨rfl, rfl⟩
      rw [h60]
      rw [show nI (mnN (puM6 N i k v u) (nI i) (N.2.1 0 + 1)) = puNum N i k v u by unfold puNum; rw [if_pos hk1]]
      refine z_iast d_Mo_putting_235 (rd_3 hA _) rfl (by first | omega | (dsimp only [sI, sL, sS, sN, sW]; omega) | (simp only [sI, sL, sS, sN, sW, va_up_self]; omega) | (simp [sI, sL, sS, sN, sW, va_up]; omega)) (by rw [ri_len]; exact (by first | omega | (dsimp only [sI, sL, sS, sN, sW]; omega) | (simp only [sI, sL, sS, sN, sW, va_up_self]; omega) | (simp [sI, sL, sS, sN, sW, va_up]; omega))) ?_
      rw [wr_3 hA]
      refine z_aload_n d_Mo_putting_236 rfl ?_
      refine z_get d_Mo_putting_237 zf_Mo_48 (zmo_m _ _ _ _) rfl ?_
      refine z_iload_n d_Mo_putting_240 rfl ?_
      refine z_aload_n d_Mo_putting_241 rfl ?_
      refine z_get d_Mo_putting_242 zf_Mo_112 (zmo_m _ _ _ _) rfl ?_
      rw [show (sI (puM6 N i k v u) 3 (N.2.1 0) (puNum N i k v u)).2.2.2.2 = N.2.2.2.2 from rfl]
      refine z_last d_Mo_putting_245 (rd_15 hA _) rfl (by first | omega | (dsimp only [sI, sL, sS, sN, sW]; omega) | (simp only [sI, sL, sS, sN, sW, va_up_self]; omega) | (simp [sI, sL, sS, sN, sW, va_up]; omega)) (by rw [rl_len]; exact (by first | omega | (dsimp only [sI, sL, sS, sN, sW]; omega) | (simp only [sI, sL, sS, sN, sW, va_up_self]; omega) | (simp [sI, sL, sS, sN, sW, va_up]; omega))) ?_
      rw [wr_15 hA]
      refine z_aload_n d_Mo_putting_246 rfl ?_
      refine z_get d_Mo_putting_247 zf_Mo_13 (zmo_m _ _ _ _) rfl ?_
      refine z_aload_n d_Mo_putting_250 rfl ?_
      refine z_get d_Mo_putting_251 zf_Mo_79 (zmo_m _ _ _ _) rfl ?_
      refine z_iconst (v := 1) d_Mo_putting_254 (by decide) ?_
      refine z_isub d_Mo_putting_255 ?_
      rw [show nI ((sL (sI (puM6 N i k v u) 3 (N.2.1 0) (puNum N i k v u)) 15 i N.2.2.2.2).2.1 0) - 1 = nI (N.2.1 0) by rw [show (sL (sI (puM6 N i k v u) 3 (N.2.1 0) (puNum N i k v u)) 15 i N.2.2.2.2).2.1 0 = N.2.1 0 + 1 from h60, nI_pred]]
      refine z_iald d_Mo_putting_256 (rd_3 hA _) rfl (by first | omega | (dsimp only [sI, sL, sS, sN, sW]; omega) | (simp only [sI, sL, sS, sN, sW, va_up_self]; omega) | (simp [sI, sL, sS, sN, sW, va_up]; omega)) (ri_get (by first | omega | (dsimp only [sI, sL, sS, sN, sW]; omega) | (simp only [sI, sL, sS, sN, sW, va_up_self]; omega) | (simp [sI, sL, sS, sN, sW, va_up]; omega))) ?_
      refine z_ireturn d_Mo_putting_257 rfl ?_ (by decide) (by decide)
      rw [hF]
      exact ⟨congrArg (fun x => some (Value.int x)) (show va_up ((puM6 N i k v u).2.2.1) 3 (va_up ((puM6 N i k v u).2.2.1 3) (N.2.1 0) (puNum N i k v u)) 3 (N.2.1 0) = _ from by rw [va_up_self, va_up_self]), rfl⟩
  · by_cases hpr : kProt k
    · rw [if_pos hpr] at hs
      subst hs
      refine z_aload_n d_Mo_putting_121 rfl ?_
      refine z_get d_Mo_putting_122 zf_Mo_23 (zmo_m _ _ _ _) rfl ?_
      refine z_iload_n d_Mo_putting_125 rfl ?_
      refine z_iload_n d_Mo_putting_126 rfl ?_
      refine z_iast d_Mo_putting_127 (rd_7 hA _) rfl (by first | omega | (dsimp only [sI, sL, sS, sN, sW]; omega) | (simp only [sI, sL, sS, sN, sW, va_up_self]; omega) | (simp [sI, sL, sS, sN, sW, va_up]; omega)) (by rw [ri_len]; exact (by first | omega | (dsimp only [sI, sL, sS, sN, sW]; omega) | (simp only [sI, sL, sS, sN, sW, va_up_self]; omega) | (simp [sI, sL, sS, sN, sW, va_up]; omega))) ?_
      rw [wr_7 hA]
      refine z_aload_n d_Mo_putting_128 rfl ?_
      refine z_get d_Mo_putting_129 zf_Mo_26 (zmo_m _ _ _ _) rfl ?_
      refine z_iload_n d_Mo_putting_132 rfl ?_
      refine z_iload_n d_Mo_putting_133 rfl ?_
      refine z_iconst (v := 1) d_Mo_putting_134 (by decide) ?_
      refine z_icmp_le (tgt := 149) d_Mo_putting_135 (by decide) (fun h135 => False.elim (hk1 h135)) (fun h135 => ?_)
      refine z_aload_n d_Mo_putting_138 rfl ?_
      refine z_get d_Mo_putting_139 zf_Mo_26 (zmo_m _ _ _ _) rfl ?_
      refine z_iload_n d_Mo_putting_142 rfl ?_
      refine z_iald d_Mo_putting_143 (rd_8 hA _) rfl (by first | omega | (dsimp only [sI, sL, sS, sN, sW]; omega) | (simp only [sI, sL, sS, sN, sW, va_up_self]; omega) | (simp [sI, sL, sS, sN, sW, va_up]; omega)) (ri_get (by first | omega | (dsimp only [sI, sL, sS, sN, sW]; omega) | (simp only [sI, sL, sS, sN, sW, va_up_self]; omega) | (simp [sI, sL, sS, sN, sW, va_up]; omega))) ?_
      refine z_iconst (v := 1) d_Mo_putting_144 (by decide) ?_
      refine z_iadd d_Mo_putting_145 ?_
      refine z_goto (tgt := 155) d_Mo_putting_146 (by decide) ?_
      refine z_iast d_Mo_putting_155 (rd_8 hA _) rfl (by first | omega | (dsimp only [sI, sL, sS, sN, sW]; omega) | (simp only [sI, sL, sS, sN, sW, va_up_self]; omega) | (simp [sI, sL, sS, sN, sW, va_up]; omega)) (by rw [ri_len]; exact (by first | omega | (dsimp only [sI, sL, sS, sN, sW]; omega) | (simp only [sI, sL, sS, sN, sW, va_up_self]; omega) | (simp [sI, sL, sS, sN, sW, va_up]; omega))) ?_
      rw [wr_8 hA]
      rw [show sI (sI N 7 i k) 8 i ((sI N 7 i k).2.2.1 8 i + 1) = puM2 N i k by unfold puM2; rw [if_neg hk1]]
      refine z_aload_n d_Mo_putting_156 rfl ?_
      refine z_get d_Mo_putting_157 zf_Mo_7 (zmo_m _ _ _ _) rfl ?_
      refine z_aload_n d_Mo_putting_160 rfl ?_
      refine z_get d_Mo_putting_161 zf_Mo_79 (zmo_m _ _ _ _) rfl ?_
      rw [show nI ((puM2 N i k).2.1 0) = nI (N.2.1 0) from rfl]
      refine z_iload_n d_Mo_putting_164 rfl ?_
      refine z_iast d_Mo_putting_165 (rd_2 hA _) rfl (by first | omega | (dsimp only [sI, sL, sS, sN, sW]; omega) | (simp only [sI, sL, sS, sN, sW, va_up_self]; omega) | (simp [sI, sL, sS, sN, sW, va_up]; omega)) (by rw [ri_len]; exact (by first | omega | (dsimp only [sI, sL, sS, sN, sW]; omega) | (simp only [sI, sL, sS, sN, sW, va_up_self]; omega) | (simp [sI, sL, sS, sN, sW, va_up]; omega))) ?_
      rw [wr_2 hA]
      refine z_aload_n d_Mo_putting_166 rfl ?_
      refine z_get d_Mo_putting_167 zf_Mo_19 (zmo_m _ _ _ _) rfl ?_
      refine z_aload_n d_Mo_putting_170 rfl ?_
      refine z_get d_Mo_putting_171 zf_Mo_79 (zmo_m _ _ _ _) rfl ?_
      rw [show nI ((sI (puM2 N i k) 2 (N.2.1 0) (nI i)).2.1 0) = nI (N.2.1 0) from rfl]
      refine z_lload_n d_Mo_putting_174 rfl ?_
      refine z_last d_Mo_putting_175 (rd_5 hA _) rfl (by first | omega | (dsimp only [sI, sL, sS, sN, sW]; omega) | (simp only [sI, sL, sS, sN, sW, va_up_self]; omega) | (simp [sI, sL, sS, sN, sW, va_up]; omega)) (by rw [rl_len]; exact (by first | omega | (dsimp only [sI, sL, sS, sN, sW]; omega) | (simp only [sI, sL, sS, sN, sW, va_up_self]; omega) | (simp [sI, sL, sS, sN, sW, va_up]; omega))) ?_
      rw [wr_5 hA]
      refine z_aload_n d_Mo_putting_176 rfl ?_
      refine z_get d_Mo_putting_177 zf_Mo_16 (zmo_m _ _ _ _) rfl ?_
      refine z_aload_n d_Mo_putting_180 rfl ?_
      refine z_get d_Mo_putting_181 zf_Mo_79 (zmo_m _ _ _ _) rfl ?_
      rw [show nI ((sL (sI (puM2 N i k) 2 (N.2.1 0) (nI i)) 5 (N.2.1 0) v).2.1 0) = nI (N.2.1 0) from rfl]
      refine z_iload d_Mo_putting_184 rfl ?_
      refine z_if_eq (tgt := 194) d_Mo_putting_186 (by decide) (fun h186 => False.elim (absurd h186 (by decide))) (fun h186 => ?_)
      refine z_iload d_Mo_putting_189 rfl ?_
      refine z_goto (tgt := 195) d_Mo_putting_191 (by decide) ?_
      refine z_iast d_Mo_putting_195 (rd_4 hA _) rfl (by first | omega | (dsimp only [sI, sL, sS, sN, sW]; omega) | (simp only [sI, sL, sS, sN, sW, va_up_self]; omega) | (simp [sI, sL, sS, sN, sW, va_up]; omega)) (by rw [ri_len]; exact (by first | omega | (dsimp only [sI, sL, sS, sN, sW]; omega) | (simp only [sI, sL, sS, sN, sW, va_up_self]; omega) | (simp [sI, sL, sS, sN, sW, va_up]; omega))) ?_
      rw [wr_4 hA]
      refine z_aload_n d_Mo_putting_196 rfl ?_
      refine z_dup d_Mo_putting_197 rfl ?_
      refine z_get d_Mo_putting_198 zf_Mo_79 (zmo_m _ _ _ _) rfl ?_
      refine z_iconst (v := 1) d_Mo_putting_201 (by decide) ?_
      refine z_iadd d_Mo_putting_202 ?_
      rw [show nI ((sI (sL (sI (puM2 N i k) 2 (N.2.1 0) (nI i)) 5 (N.2.1 0) v) 4 (N.2.1 0) (u)).2.1 0) + 1 = nI (N.2.1 0 + 1) from nI_1 _]
      refine z_put d_Mo_putting_203 zp_Mo_79 (zmo_m _ _ _ _) rfl rfl ?_
      rw [ws_6]
      rw [show sN (sI (sL (sI (puM2 N i k) 2 (N.2.1 0) (nI i)) 5 (N.2.1 0) v) 4 (N.2.1 0) (u)) 0 (N.2.1 0 + 1) = puM6 N i k v u by unfold puM6; rw [if_pos hpr]]
      have h60 : (puM6 N i k v u).2.1 0 = N.2.1 0 + 1 := by simp [puM6, sN, va_up]
      refine z_aload_n d_Mo_putting_206 rfl ?_
      refine z_get d_Mo_putting_207 zf_Mo_13 (zmo_m _ _ _ _) rfl ?_
      refine z_aload_n d_Mo_putting_210 rfl ?_
      refine z_get d_Mo_putting_211 zf_Mo_79 (zmo_m _ _ _ _) rfl ?_
      refine z_iconst (v := 1) d_Mo_putting_214 (by decide) ?_
      refine z_isub d_Mo_putting_215 ?_
      rw [show nI ((puM6 N i k v u).2.1 0) - 1 = nI (N.2.1 0) by rw [h60, nI_pred]]
      refine z_iload_n d_Mo_putting_216 rfl ?_
      refine z_iconst (v := 1) d_Mo_putting_217 (by decide) ?_
      refine z_icmp_le (tgt := 230) d_Mo_putting_218 (by decide) (fun h218 => False.elim (hk1 h218)) (fun h218 => ?_)
      refine z_aload_n d_Mo_putting_221 rfl ?_
      refine z_get d_Mo_putting_222 zf_Mo_26 (zmo_m _ _ _ _) rfl ?_
      refine z_iload_n d_Mo_putting_225 rfl ?_
      refine z_iald d_Mo_putting_226 (rd_8 hA _) rfl (by first | omega | (dsimp only [sI, sL, sS, sN, sW]; omega) | (simp only [sI, sL, sS, sN, sW, va_up_self]; omega) | (simp [sI, sL, sS, sN, sW, va_up]; omega)) (ri_get (by first | omega | (dsimp only [sI, sL, sS, sN, sW]; omega) | (simp only [sI, sL, sS, sN, sW, va_up_self]; omega) | (simp [sI, sL, sS, sN, sW, va_up]; omega))) ?_
      refine z_goto (tgt := 235) d_Mo_putting_227 (by decide) ?_
      rw [show (puM6 N i k v u).2.2.1 8 i = puNum N i k v u by unfold puNum; rw [if_neg hk1]]
      refine z_iast d_Mo_putting_235 (rd_3 hA _) rfl (by first | omega | (dsimp only [sI, sL, sS, sN, sW]; omega) | (simp only [sI, sL, sS, sN, sW, va_up_self]; omega) | (simp [sI, sL, sS, sN, sW, va_up]; omega)) (by rw [ri_len]; exact (by first | omega | (dsimp only [sI, sL, sS, sN, sW]; omega) | (simp only [sI, sL, sS, sN, sW, va_up_self]; omega) | (simp [sI, sL, sS, sN, sW, va_up]; omega))) ?_
      rw [wr_3 hA]
      refine z_aload_n d_Mo_putting_236 rfl ?_
      refine z_get d_Mo_putting_237 zf_Mo_48 (zmo_m _ _ _ _) rfl ?_
      refine z_iload_n d_Mo_putting_240 rfl ?_
      refine z_aload_n d_Mo_putting_241 rfl ?_
      refine z_get d_Mo_putting_242 zf_Mo_112 (zmo_m _ _ _ _) rfl ?_
      rw [show (sI (puM6 N i k v u) 3 (N.2.1 0) (puNum N i k v u)).2.2.2.2 = N.2.2.2.2 from rfl]
      refine z_last d_Mo_putting_245 (rd_15 hA _) rfl (by first | omega | (dsimp only [sI, sL, sS, sN, sW]; omega) | (simp only [sI, sL, sS, sN, sW, va_up_self]; omega) | (simp [sI, sL, sS, sN, sW, va_up]; omega)) (by rw [rl_len]; exact (by first | omega | (dsimp only [sI, sL, sS, sN, sW]; omega) | (simp only [sI, sL, sS, sN, sW, va_up_self]; omega) | (simp [sI, sL, sS, sN, sW, va_up]; omega))) ?_
      rw [wr_15 hA]
      refine z_aload_n d_Mo_putting_246 rfl ?_
      refine z_get d_Mo_putting_247 zf_Mo_13 (zmo_m _ _ _ _) rfl ?_
      refine z_aload_n d_Mo_putting_250 rfl ?_
      refine z_get d_Mo_putting_251 zf_Mo_79 (zmo_m _ _ _ _) rfl ?_
      refine z_iconst (v := 1) d_Mo_putting_254 (by decide) ?_
      refine z_isub d_Mo_putting_255 ?_
      rw [show nI ((sL (sI (puM6 N i k v u) 3 (N.2.1 0) (puNum N i k v u)) 15 i N.2.2.2.2).2.1 0) - 1 = nI (N.2.1 0) by rw [show (sL (sI (puM6 N i k v u) 3 (N.2.1 0) (puNum N i k v u)) 15 i N.2.2.2.2).2.1 0 = N.2.1 0 + 1 from h60, nI_pred]]
      refine z_iald d_Mo_putting_256 (rd_3 hA _) rfl (by first | omega | (dsimp only [sI, sL, sS, sN, sW]; omega) | (simp only [sI, sL, sS, sN, sW, va_up_self]; omega) | (simp [sI, sL, sS, sN, sW, va_up]; omega)) (ri_get (by first | omega | (dsimp only [sI, sL, sS, sN, sW]; omega) | (simp only [sI, sL, sS, sN, sW, va_up_self]; omega) | (simp [sI, sL, sS, sN, sW, va_up]; omega))) ?_
      refine z_ireturn d_Mo_putting_257 rfl ?_ (by decide) (by decide)
      rw [hF]
      exact ⟨congrArg (fun x => some (Value.int x)) (show va_up ((puM6 N i k v u).2.2.1) 3 (va_up ((puM6 N i k v u).2.2.1 3) (N.2.1 0) (puNum N i k v u)) 3 (N.2.1 0) = _ from by rw [va_up_self, va_up_self]), rfl⟩
    · rw [if_neg hpr] at hs
      subst hs
      refine z_aload_n d_Mo_putting_121 rfl ?_
      refine z_get d_Mo_putting_122 zf_Mo_23 (zmo_m _ _ _ _) rfl ?_
      refine z_iload_n d_Mo_putting_125 rfl ?_
      refine z_iload_n d_Mo_putting_126 rfl ?_
      refine z_iast d_Mo_putting_127 (rd_7 hA _) rfl (by first | omega | (dsimp only [sI, sL, sS, sN, sW]; omega) | (simp only [sI, sL, sS, sN, sW, va_up_self]; omega) | (simp [sI, sL, sS, sN, sW, va_up]; omega)) (by rw [ri_len]; exact (by first | omega | (dsimp only [sI, sL, sS, sN, sW]; omega) | (simp only [sI, sL, sS, sN, sW, va_up_self]; omega) | (simp [sI, sL, sS, sN, sW, va_up]; omega))) ?_
      rw [wr_7 hA]
      refine z_aload_n d_Mo_putting_128 rfl ?_
      refine z_get d_Mo_putting_129 zf_Mo_26 (zmo_m _ _ _ _) rfl ?_
      refine z_iload_n d_Mo_putting_132 rfl ?_
      refine z_iload_n d_Mo_putting_133 rfl ?_
      refine z_iconst (v := 1) d_Mo_putting_134 (by decide) ?_
      refine z_icmp_le (tgt := 149) d_Mo_putting_135 (by decide) (fun h135 => False.elim (hk1 h135)) (fun h135 => ?_)
      refine z_aload_n d_Mo_putting_138 rfl ?_
      refine z_get d_Mo_putting_139 zf_Mo_26 (zmo_m _ _ _ _) rfl ?_
      refine z_iload_n d_Mo_putting_142 rfl ?_
      refine z_iald d_Mo_putting_143 (rd_8 hA _) rfl (by first | omega | (dsimp only [sI, sL, sS, sN, sW]; omega) | (simp only [sI, sL, sS, sN, sW, va_up_self]; omega) | (simp [sI, sL, sS, sN, sW, va_up]; omega)) (ri_get (by first | omega | (dsimp only [sI, sL, sS, sN, sW]; omega) | (simp only [sI, sL, sS, sN, sW, va_up_self]; omega) | (simp [sI, sL, sS, sN, sW, va_up]; omega))) ?_
      refine z_iconst (v := 1) d_Mo_putting_144 (by decide) ?_
      refine z_iadd d_Mo_putting_145 ?_
      refine z_goto (tgt := 155) d_Mo_putting_146 (by decide) ?_
      refine z_iast d_Mo_putting_155 (rd_8 hA _) rfl (by first | omega | (dsimp only [sI, sL, sS, sN, sW]; omega) | (simp only [sI, sL, sS, sN, sW, va_up_self]; omega) | (simp [sI, sL, sS, sN, sW, va_up]; omega)) (by rw [ri_len]; exact (by first | omega | (dsimp only [sI, sL, sS, sN, sW]; omega) | (simp only [sI, sL, sS, sN, sW, va_up_self]; omega) | (simp [sI, sL, sS, sN, sW, va_up]; omega))) ?_
      rw [wr_8 hA]
      rw [show sI (sI N 7 i k) 8 i ((sI N 7 i k).2.2.1 8 i + 1) = puM2 N i k by unfold puM2; rw [if_neg hk1]]
      refine z_aload_n d_Mo_putting_156 rfl ?_
      refine z_get d_Mo_putting_157 zf_Mo_7 (zmo_m _ _ _ _) rfl ?_
      refine z_aload_n d_Mo_putting_160 rfl ?_
      refine z_get d_Mo_putting_161 zf_Mo_79 (zmo_m _ _ _ _) rfl ?_
      rw [show nI ((puM2 N i k).2.1 0) = nI (N.2.1 0) from rfl]
      refine z_iload_n d_Mo_putting_164 rfl ?_
      refine z_iast d_Mo_putting_165 (rd_2 hA _) rfl (by first | omega | (dsimp only [sI, sL, sS, sN, sW]; omega) | (simp only [sI, sL, sS, sN, sW, va_up_self]; omega) | (simp [sI, sL, sS, sN, sW, va_up]; omega)) (by rw [ri_len]; exact (by first | omega | (dsimp only [sI, sL, sS, sN, sW]; omega) | (simp only [sI, sL, sS, sN, sW, va_up_self]; omega) | (simp [sI, sL, sS, sN, sW, va_up]; omega))) ?_
      rw [wr_2 hA]
      refine z_aload_n d_Mo_putting_166 rfl ?_
      refine z_get d_Mo_putting_167 zf_Mo_19 (zmo_m _ _ _ _) rfl ?_
      refine z_aload_n d_Mo_putting_170 rfl ?_
      refine z_get d_Mo_putting_171 zf_Mo_79 (zmo_m _ _ _ _) rfl ?_
      rw [show nI ((sI (puM2 N i k) 2 (N.2.1 0) (nI i)).2.1 0) = nI (N.2.1 0) from rfl]
      refine z_lload_n d_Mo_putting_174 rfl ?_
      refine z_last d_Mo_putting_175 (rd_5 hA _) rfl (by first | omega | (dsimp only [sI, sL, sS, sN, sW]; omega) | (simp only [sI, sL, sS, sN, sW, va_up_self]; omega) | (simp [sI, sL, sS, sN, sW, va_up]; omega)) (by rw [rl_len]; exact (by first | omega | (dsimp only [sI, sL, sS, sN, sW]; omega) | (simp only [sI, sL, sS, sN, sW, va_up_self]; omega) | (simp [sI, sL, sS, sN, sW, va_up]; omega))) ?_
      rw [wr_5 hA]
      refine z_aload_n d_Mo_putting_176 rfl ?_
      refine z_get d_Mo_putting_177 zf_Mo_16 (zmo_m _ _ _ _) rfl ?_
      refine z_aload_n d_Mo_putting_180 rfl ?_
      refine z_get d_Mo_putting_181 zf_Mo_79 (zmo_m _ _ _ _) rfl ?_
      rw [show nI ((sL (sI (puM2 N i k) 2 (N.2.1 0) (nI i)) 5 (N.2.1 0) v).2.1 0) = nI (N.2.1 0) from rfl]
      refine z_iload d_Mo_putting_184 rfl ?_
      refine z_if_eq (tgt := 194) d_Mo_putting_186 (by decide) (fun h186 => ?_) (fun h186 => False.elim (h186 rfl))
      refine z_iconst (v := 0) d_Mo_putting_194 (by decide) ?_
      refine z_iast d_Mo_putting_195 (rd_4 hA _) rfl (by first | omega | (dsimp only [sI, sL, sS, sN, sW]; omega) | (simp only [sI, sL, sS, sN, sW, va_up_self]; omega) | (simp [sI, sL, sS, sN, sW, va_up]; omega)) (by rw [ri_len]; exact (by first | omega | (dsimp only [sI, sL, sS, sN, sW]; omega) | (simp only [sI, sL, sS, sN, sW, va_up_self]; omega) | (simp [sI, sL, sS, sN, sW, va_up]; omega))) ?_
      rw [wr_4 hA]
      refine z_aload_n d_Mo_putting_196 rfl ?_
      refine z_dup d_Mo_putting_197 rfl ?_
      refine z_get d_Mo_putting_198 zf_Mo_79 (zmo_m _ _ _ _) rfl ?_
      refine z_iconst (v := 1) d_Mo_putting_201 (by decide) ?_
      refine z_iadd d_Mo_putting_202 ?_
      rw [show nI ((sI (sL (sI (puM2 N i k) 2 (N.2.1 0) (nI i)) 5 (N.2.1 0) v) 4 (N.2.1 0) (0)).2.1 0) + 1 = nI (N.2.1 0 + 1) from nI_1 _]
      refine z_put d_Mo_putting_203 zp_Mo_79 (zmo_m _ _ _ _) rfl rfl ?_
      rw [ws_6]
      rw [show sN (sI (sL (sI (puM2 N i k) 2 (N.2.1 0) (nI i)) 5 (N.2.1 0) v) 4 (N.2.1 0) (0)) 0 (N.2.1 0 + 1) = puM6 N i k v u by unfold puM6; rw [if_neg hpr]]
      have h60 : (puM6 N i k v u).2.1 0 = N.2.1 0 + 1 := by simp [puM6, sN, va_up]
      refine z_aload_n d_Mo_putting_206 rfl ?_
      refine z_get d_Mo_putting_207 zf_Mo_13 (zmo_m _ _ _ _) rfl ?_
      refine z_aload_n d_Mo_putting_210 rfl ?_
      refine z_get d_Mo_putting_211 zf_Mo_79 (zmo_m _ _ _ _) rfl ?_
      refine z_iconst (v := 1) d_Mo_putting_214 (by decide) ?_
      refine z_isub d_Mo_putting_215 ?_
      rw [show nI ((puM6 N i k v u).2.1 0) - 1 = nI (N.2.1 0) by rw [h60, nI_pred]]
      refine z_iload_n d_Mo_putting_216 rfl ?_
      refine z_iconst (v := 1) d_Mo_putting_217 (by decide) ?_
      refine z_icmp_le (tgt := 230) d_Mo_putting_218 (by decide) (fun h218 => False.elim (hk1 h218)) (fun h218 => ?_)
      refine z_aload_n d_Mo_putting_221 rfl ?_
      refine z_get d_Mo_putting_222 zf_Mo_26 (zmo_m _ _ _ _) rfl ?_
      refine z_iload_n d_Mo_putting_225 rfl ?_
      refine z_iald d_Mo_putting_226 (rd_8 hA _) rfl (by first | omega | (dsimp only [sI, sL, sS, sN, sW]; omega) | (simp only [sI, sL, sS, sN, sW, va_up_self]; omega) | (simp [sI, sL, sS, sN, sW, va_up]; omega)) (ri_get (by first | omega | (dsimp only [sI, sL, sS, sN, sW]; omega) | (simp only [sI, sL, sS, sN, sW, va_up_self]; omega) | (simp [sI, sL, sS, sN, sW, va_up]; omega))) ?_
      refine z_goto (tgt := 235) d_Mo_putting_227 (by decide) ?_
      rw [show (puM6 N i k v u).2.2.1 8 i = puNum N i k v u by unfold puNum; rw [if_neg hk1]]
      refine z_iast d_Mo_putting_235 (rd_3 hA _) rfl (by first | omega | (dsimp only [sI, sL, sS, sN, sW]; omega) | (simp only [sI, sL, sS, sN, sW, va_up_self]; omega) | (simp [sI, sL, sS, sN, sW, va_up]; omega)) (by rw [ri_len]; exact (by first | omega | (dsimp only [sI, sL, sS, sN, sW]; omega) | (simp only [sI, sL, sS, sN, sW, va_up_self]; omega) | (simp [sI, sL, sS, sN, sW, va_up]; omega))) ?_
      rw [wr_3 hA]
      refine z_aload_n d_Mo_putting_236 rfl ?_
      refine z_get d_Mo_putting_237 zf_Mo_48 (zmo_m _ _ _ _) rfl ?_
      refine z_iload_n d_Mo_putting_240 rfl ?_
      refine z_aload_n d_Mo_putting_241 rfl ?_
      refine z_get d_Mo_putting_242 zf_Mo_112 (zmo_m _ _ _ _) rfl ?_
      rw [show (sI (puM6 N i k v u) 3 (N.2.1 0) (puNum N i k v u)).2.2.2.2 = N.2.2.2.2 from rfl]
      refine z_last d_Mo_putting_245 (rd_15 hA _) rfl (by first | omega | (dsimp only [sI, sL, sS, sN, sW]; omega) | (simp only [sI, sL, sS, sN, sW, va_up_self]; omega) | (simp [sI, sL, sS, sN, sW, va_up]; omega)) (by rw [rl_len]; exact (by first | omega | (dsimp only [sI, sL, sS, sN, sW]; omega) | (simp only [sI, sL, sS, sN, sW, va_up_self]; omega) | (simp [sI, sL, sS, sN, sW, va_up]; omega))) ?_
      rw [wr_15 hA]
      refine z_aload_n d_Mo_putting_246 rfl ?_
      refine z_get d_Mo_putting_247 zf_Mo_13 (zmo_m _ _ _ _) rfl ?_
      refine z_aload_n d_Mo_putting_250 rfl ?_
      refine z_get d_Mo_putting_251 zf_Mo_79 (zmo_m _ _ _ _) rfl ?_
      refine z_iconst (v := 1) d_Mo_putting_254 (by decide) ?_
      refine z_isub d_Mo_putting_255 ?_
      rw [show nI ((sL (sI (puM6 N i k v u) 3 (N.2.1 0) (puNum N i k v u)) 15 i N.2.2.2.2).2.1 0) - 1 = nI (N.2.1 0) by rw [show (sL (sI (puM6 N i k v u) 3 (N.2.1 0) (puNum N i k v u)) 15 i N.2.2.2.2).2.1 0 = N.2.1 0 + 1 from h60, nI_pred]]
      refine z_iald d_Mo_putting_256 (rd_3 hA _) rfl (by first | omega | (dsimp only [sI, sL, sS, sN, sW]; omega) | (simp only [sI, sL, sS, sN, sW, va_up_self]; omega) | (simp [sI, sL, sS, sN, sW, va_up]; omega)) (ri_get (by first | omega | (dsimp only [sI, sL, sS, sN, sW]; omega) | (simp only [sI, sL, sS, sN, sW, va_up_self]; omega) | (simp [sI, sL, sS, sN, sW, va_up]; omega))) ?_
      refine z_ireturn d_Mo_putting_257 rfl ?_ (by decide) (by decide)
      rw [hF]
      exact ⟨congrArg (fun x => some (Value.int x)) (show va_up ((puM6 N i k v u).2.2.1) 3 (va_up ((puM6 N i k v u).2.2.1 3) (N.2.1 0) (puNum N i k v u)) 3 (N.2.1 0) = _ from by rw [va_up_self, va_up_self]), rfl⟩
set_option maxHeartbeats 4000000 in
set_option maxRecDepth 100000 in
theorem c_Mo_putting (l : Launch) (g : ZG) (m : Nat) (ad : Nat → Nat) (N : NS) (i : Nat) (k : Int32) (v : Int64) (u : Int32) (hA : zAd g.2.2.2.1 m ad) (hi : i < 32) (hit : N.2.1 0 < 1100) : ZC vcl tlx GT l g y_Mo_putting b_Mo_putting 7 (Option.some FieldType.int) (ZRm 2 0 0) [.ref m, .int (nI i), .int k, .long v, .int u] (zmo g.2.2.2.1 m ad N) (fun r M' => r = some (.int (puM N i k v u).1) ∧ M' = zmo g.2.2.2.1 m ad ((puM N i k v u).2)) := by
  refine ZC.of (by decide) (Nat.le_of_ble_eq_true rfl) rfl (fun k0 hz0 => ?_)
  have hgood : ¬ (nI i < 0 ∨ 32 ≤ nI i) := fun h => h.elim (nI_pos (by omega)) (fun h => nI_ge hi (by decide) h)
  refine z_iload_n d_Mo_putting_0 rfl ?_
  refine z_callS gt_good d_Mo_putting_1 zs_Mo_105 (fun l => c_Mo_isQueue l g _ _) rfl rfl ⟨Nat.le_of_ble_eq_true rfl, Nat.le_of_ble_eq_true rfl⟩ (Nat.le_of_ble_eq_true rfl) (Nat.le_of_ble_eq_true rfl) (Nat.le_of_ble_eq_true rfl) ?_
  rintro _ _ ⟨rfl, rfl⟩
  rw [if_neg hgood]
  refine z_if_eq (tgt := 28) d_Mo_putting_4 (by decide) (fun h4 => False.elim (absurd h4 (by decide))) (fun h4 => ?_)
  refine z_iload_n d_Mo_putting_7 rfl ?_
  refine z_if_lt (tgt := 28) d_Mo_putting_8 (by decide) (fun h8 => ?_) (fun h8 => ?_)
  · skip
    have b1 : puB k u := Or.inl h8
    refine z_bipush (v := (-2)) d_Mo_putting_28 (by decide) ?_
    refine z_ireturn d_Mo_putting_30 rfl ?_ (by decide) (by decide)
    rw [show puM N i k v u = _ from by unfold puM; rw [if_pos b1]]
    exact ⟨rfl, rfl⟩
  · skip
    refine z_iload_n d_Mo_putting_11 rfl ?_
    refine z_iconst (v := 3) d_Mo_putting_12 (by decide) ?_
    refine z_icmp_gt (tgt := 28) d_Mo_putting_13 (by decide) (fun h13 => ?_) (fun h13 => ?_)
    · skip
      have b1 : puB k u := Or.inr (Or.inl h13)
      refine z_bipush (v := (-2)) d_Mo_putting_28 (by decide) ?_
      refine z_ireturn d_Mo_putting_30 rfl ?_ (by decide) (by decide)
      rw [show puM N i k v u = _ from by unfold puM; rw [if_pos b1]]
      exact ⟨rfl, rfl⟩
    · skip
      refine z_iload d_Mo_putting_16 rfl ?_
      refine z_if_lt (tgt := 28) d_Mo_putting_18 (by decide) (fun h18 => ?_) (fun h18 => ?_)
      · skip
        have b1 : puB k u := Or.inr (Or.inr (Or.inl h18))
        refine z_bipush (v := (-2)) d_Mo_putting_28 (by decide) ?_
        refine z_ireturn d_Mo_putting_30 rfl ?_ (by decide) (by decide)
        rw [show puM N i k v u = _ from by unfold puM; rw [if_pos b1]]
        exact ⟨rfl, rfl⟩
      · skip
        refine z_iload d_Mo_putting_21 rfl ?_
        refine z_bipush (v := 9) d_Mo_putting_23 (by decide) ?_
        refine z_icmp_le (tgt := 31) d_Mo_putting_25 (by decide) (fun h25 => ?_) (fun h25 => ?_)
        · skip
          have b1 : ¬ puB k u := fun h => h.elim h8 (fun h => h.elim h13 (fun h => h.elim h18 (fun h => k2_nlt h25 h)))
          refine z_aload_n d_Mo_putting_31 rfl ?_
          refine z_get d_Mo_putting_32 zf_Mo_23 (zmo_m _ _ _ _) rfl ?_
          refine z_iload_n d_Mo_putting_35 rfl ?_
          refine z_iald d_Mo_putting_36 (rd_7 hA _) rfl (by first | omega | (dsimp only [sI, sL, sS, sN, sW]; omega) | (simp only [sI, sL, sS, sN, sW, va_up_self]; omega) | (simp [sI, sL, sS, sN, sW, va_up]; omega)) (ri_get (by first | omega | (dsimp only [sI, sL, sS, sN, sW]; omega) | (simp only [sI, sL, sS, sN, sW, va_up_self]; omega) | (simp [sI, sL, sS, sN, sW, va_up]; omega))) ?_
          refine z_iconst (v := (-1)) d_Mo_putting_37 (by decide) ?_
          refine z_icmp_eq (tgt := 51) d_Mo_putting_38 (by decide) (fun h38 => ?_) (fun h38 => ?_)
          · skip
            have hkk : ¬ (¬ N.2.2.1 7 i = -1 ∧ ¬ N.2.2.1 7 i = k) := fun h => h.1 h38
            refine z_aload_n d_Mo_putting_51 rfl ?_
            refine z_get d_Mo_putting_52 zf_Mo_29 (zmo_m _ _ _ _) rfl ?_
            refine z_iload_n d_Mo_putting_55 rfl ?_
            refine z_iald d_Mo_putting_56 (rd_9 hA _) rfl (by first | omega | (dsimp only [sI, sL, sS, sN, sW]; omega) | (simp only [sI, sL, sS, sN, sW, va_up_self]; omega) | (simp [sI, sL, sS, sN, sW, va_up]; omega)) (ri_get (by first | omega | (dsimp only [sI, sL, sS, sN, sW]; omega) | (simp only [sI, sL, sS, sN, sW, va_up_self]; omega) | (simp [sI, sL, sS, sN, sW, va_up]; omega))) ?_
            refine z_if_le (tgt := 68) d_Mo_putting_57 (by decide) (fun h57 => ?_) (fun h57 => ?_)
            · skip
              have b2 : ¬ puK N i k := fun h => h.elim hkk (fun h => h.1 h57)
              refine z_iload_n d_Mo_putting_68 rfl ?_
              refine z_iconst (v := 2) d_Mo_putting_69 (by decide) ?_
              refine z_irem d_Mo_putting_70 (by decide) ?_
              refine z_iconst (v := 1) d_Mo_putting_71 (by decide) ?_
              refine z_icmp_ne (tgt := 79) d_Mo_putting_72 (by decide) (fun h72 => ?_) (fun h72 => ?_)
              · skip
                have hpr : ¬ kProt k := fun h => h72 ((k_prot (fun h => b1 (Or.inl h)) (fun h => b1 (Or.inr (Or.inl h)))).mpr h)
                refine z_iconst (v := 0) d_Mo_putting_79 (by decide) ?_
                refine z_istore d_Mo_putting_80 (by decide) rfl ?_
                have b3 : ¬ puL N i k u := fun h => hpr h.1
                refine z_iload d_Mo_putting_82 rfl ?_
                refine z_if_eq (tgt := 108) d_Mo_putting_84 (by decide) (fun h84 => ?_) (fun h84 => False.elim (h84 rfl))
                refine z_aload_n d_Mo_putting_108 rfl ?_
                refine z_get d_Mo_putting_109 zf_Mo_79 (zmo_m _ _ _ _) rfl ?_
                refine z_aload_n d_Mo_putting_112 rfl ?_
                refine z_get d_Mo_putting_113 zf_Mo_72 (zmo_m _ _ _ _) rfl ?_
                refine z_icmp_lt (tgt := 121) d_Mo_putting_116 (by decide) (fun h116 => ?_) (fun h116 => ?_)
                · skip
                  exact t_Mo_putting g k0 m ad N i k v u _ hA hi hit (by first | rw [if_pos hpr] | rw [if_neg hpr]) b1 b2 b3 h116
                · skip
                  refine z_iconst (v := (-1)) d_Mo_putting_119 (by decide) ?_
                  refine z_ireturn d_Mo_putting_120 rfl ?_ (by decide) (by decide)
                  rw [show puM N i k v u = _ from by unfold puM; rw [if_neg b1, if_neg b2, if_neg b3, if_pos h116]]
                  exact ⟨rfl, rfl⟩
              · skip
                have hpr : kProt k := (k_prot (fun h => b1 (Or.inl h)) (fun h => b1 (Or.inr (Or.inl h)))).mp h72
                refine z_iconst (v := 1) d_Mo_putting_75 (by decide) ?_
                refine z_goto (tgt := 80) d_Mo_putting_76 (by decide) ?_
                refine z_istore d_Mo_putting_80 (by decide) rfl ?_
                refine z_iload d_Mo_putting_82 rfl ?_
                refine z_if_eq (tgt := 108) d_Mo_putting_84 (by decide) (fun h84 => False.elim (absurd h84 (by decide))) (fun h84 => ?_)
                refine z_aload_n d_Mo_putting_87 rfl ?_
                refine z_iload_n d_Mo_putting_88 rfl ?_
                refine z_callV gt_good d_Mo_putting_89 zv_Mo_109 (zmo_m _ _ _ _) rfl (fun l => c_Mo_lockOf l g m ad N (nI i) hA (by omega)) rfl rfl ⟨Nat.le_of_ble_eq_true rfl, Nat.le_of_ble_eq_true rfl⟩ (Nat.le_of_ble_eq_true rfl) (Nat.le_of_ble_eq_true rfl) (Nat.le_of_ble_eq_true rfl) ?_
                rintro _ _ ⟨rfl, rfl⟩
                refine z_if_eq (tgt := 108) d_Mo_putting_92 (by decide) (fun h92 => ?_) (fun h92 => ?_)
                · skip
                  have b3 : ¬ puL N i k u := fun h => h.2.1 h92
                  refine z_aload_n d_Mo_putting_108 rfl ?_
                  refine z_get d_Mo_putting_109 zf_Mo_79 (zmo_m _ _ _ _) rfl ?_
                  refine z_aload_n d_Mo_putting_112 rfl ?_
                  refine z_get d_Mo_putting_113 zf_Mo_72 (zmo_m _ _ _ _) rfl ?_
                  refine z_icmp_lt (tgt := 121) d_Mo_putting_116 (by decide) (fun h116 => ?_) (fun h116 => ?_)
                  · skip
                    exact t_Mo_putting g k0 m ad N i k v u _ hA hi hit (by first | rw [if_pos hpr] | rw [if_neg hpr]) b1 b2 b3 h116
                  · skip
                    refine z_iconst (v := (-1)) d_Mo_putting_119 (by decide) ?_
                    refine z_ireturn d_Mo_putting_120 rfl ?_ (by decide) (by decide)
                    rw [show puM N i k v u = _ from by unfold puM; rw [if_neg b1, if_neg b2, if_neg b3, if_pos h116]]
                    exact ⟨rfl, rfl⟩
                · skip
                  refine z_aload_n d_Mo_putting_95 rfl ?_
                  refine z_iload_n d_Mo_putting_96 rfl ?_
                  refine z_callV gt_good d_Mo_putting_97 zv_Mo_109 (zmo_m _ _ _ _) rfl (fun l => c_Mo_lockOf l g m ad N (nI i) hA (by omega)) rfl rfl ⟨Nat.le_of_ble_eq_true rfl, Nat.le_of_ble_eq_true rfl⟩ (Nat.le_of_ble_eq_true rfl) (Nat.le_of_ble_eq_true rfl) (Nat.le_of_ble_eq_true rfl) ?_
                  rintro _ _ ⟨rfl, rfl⟩
                  refine z_iload d_Mo_putting_100 rfl ?_
                  refine z_icmp_eq (tgt := 108) d_Mo_putting_102 (by decide) (fun h102 => ?_) (fun h102 => ?_)
                  · skip
                    have b3 : ¬ puL N i k u := fun h => h.2.2 h102
                    refine z_aload_n d_Mo_putting_108 rfl ?_
                    refine z_get d_Mo_putting_109 zf_Mo_79 (zmo_m _ _ _ _) rfl ?_
                    refine z_aload_n d_Mo_putting_112 rfl ?_
                    refine z_get d_Mo_putting_113 zf_Mo_72 (zmo_m _ _ _ _) rfl ?_
                    refine z_icmp_lt (tgt := 121) d_Mo_putting_116 (by decide) (fun h116 => ?_) (fun h116 => ?_)
                    · skip
                      exact t_Mo_putting g k0 m ad N i k v u _ hA hi hit (by first | rw [if_pos hpr] | rw [if_neg hpr]) b1 b2 b3 h116
                    · skip
                      refine z_iconst (v := (-1)) d_Mo_putting_119 (by decide) ?_
                      refine z_ireturn d_Mo_putting_120 rfl ?_ (by decide) (by decide)
                      rw [show puM N i k v u = _ from by unfold puM; rw [if_neg b1, if_neg b2, if_neg b3, if_pos h116]]
                      exact ⟨rfl, rfl⟩
                  · skip
                    have b3 : puL N i k u := ⟨hpr, h92, h102⟩
                    refine z_bipush (v := (-5)) d_Mo_putting_105 (by decide) ?_
                    refine z_ireturn d_Mo_putting_107 rfl ?_ (by decide) (by decide)
                    rw [show puM N i k v u = _ from by unfold puM; rw [if_neg b1, if_neg b2, if_pos b3]]
                    exact ⟨rfl, rfl⟩
            · skip
              refine z_iload_n d_Mo_putting_60 rfl ?_
              refine z_iconst (v := 2) d_Mo_putting_61 (by decide) ?_
              refine z_icmp_ge (tgt := 68) d_Mo_putting_62 (by decide) (fun h62 => ?_) (fun h62 => ?_)
              · skip
                have b2 : ¬ puK N i k := fun h => h.elim hkk (fun h => k2_nlt h62 h.2)
                refine z_iload_n d_Mo_putting_68 rfl ?_
                refine z_iconst (v := 2) d_Mo_putting_69 (by decide) ?_
                refine z_irem d_Mo_putting_70 (by decide) ?_
                refine z_iconst (v := 1) d_Mo_putting_71 (by decide) ?_
                refine z_icmp_ne (tgt := 79) d_Mo_putting_72 (by decide) (fun h72 => ?_) (fun h72 => ?_)
                · skip
                  have hpr : ¬ kProt k := fun h => h72 ((k_prot (fun h => b1 (Or.inl h)) (fun h => b1 (Or.inr (Or.inl h)))).mpr h)
                  refine z_iconst (v := 0) d_Mo_putting_79 (by decide) ?_
                  refine z_istore d_Mo_putting_80 (by decide) rfl ?_
                  have b3 : ¬ puL N i k u := fun h => hpr h.1
                  refine z_iload d_Mo_putting_82 rfl ?_
                  refine z_if_eq (tgt := 108) d_Mo_putting_84 (by decide) (fun h84 => ?_) (fun h84 => False.elim (h84 rfl))
                  refine z_aload_n d_Mo_putting_108 rfl ?_
                  refine z_get d_Mo_putting_109 zf_Mo_79 (zmo_m _ _ _ _) rfl ?_
                  refine z_aload_n d_Mo_putting_112 rfl ?_
                  refine z_get d_Mo_putting_113 zf_Mo_72 (zmo_m _ _ _ _) rfl ?_
                  refine z_icmp_lt (tgt := 121) d_Mo_putting_116 (by decide) (fun h116 => ?_) (fun h116 => ?_)
                  · skip
                    exact t_Mo_putting g k0 m ad N i k v u _ hA hi hit (by first | rw [if_pos hpr] | rw [if_neg hpr]) b1 b2 b3 h116
                  · skip
                    refine z_iconst (v := (-1)) d_Mo_putting_119 (by decide) ?_
                    refine z_ireturn d_Mo_putting_120 rfl ?_ (by decide) (by decide)
                    rw [show puM N i k v u = _ from by unfold puM; rw [if_neg b1, if_neg b2, if_neg b3, if_pos h116]]
                    exact ⟨rfl, rfl⟩
                · skip
                  have hpr : kProt k := (k_prot (fun h => b1 (Or.inl h)) (fun h => b1 (Or.inr (Or.inl h)))).mp h72
                  refine z_iconst (v := 1) d_Mo_putting_75 (by decide) ?_
                  refine z_goto (tgt := 80) d_Mo_putting_76 (by decide) ?_
                  refine z_istore d_Mo_putting_80 (by decide) rfl ?_
                  refine z_iload d_Mo_putting_82 rfl ?_
                  refine z_if_eq (tgt := 108) d_Mo_putting_84 (by decide) (fun h84 => False.elim (absurd h84 (by decide))) (fun h84 => ?_)
                  refine z_aload_n d_Mo_putting_87 rfl ?_
                  refine z_iload_n d_Mo_putting_88 rfl ?_
                  refine z_callV gt_good d_Mo_putting_89 zv_Mo_109 (zmo_m _ _ _ _) rfl (fun l => c_Mo_lockOf l g m ad N (nI i) hA (by omega)) rfl rfl ⟨Nat.le_of_ble_eq_true rfl, Nat.le_of_ble_eq_true rfl⟩ (Nat.le_of_ble_eq_true rfl) (Nat.le_of_ble_eq_true rfl) (Nat.le_of_ble_eq_true rfl) ?_
                  rintro _ _ ⟨rfl, rfl⟩
                  refine z_if_eq (tgt := 108) d_Mo_putting_92 (by decide) (fun h92 => ?_) (fun h92 => ?_)
                  · skip
                    have b3 : ¬ puL N i k u := fun h => h.2.1 h92
                    refine z_aload_n d_Mo_putting_108 rfl ?_
                    refine z_get d_Mo_putting_109 zf_Mo_79 (zmo_m _ _ _ _) rfl ?_
                    refine z_aload_n d_Mo_putting_112 rfl ?_
                    refine z_get d_Mo_putting_113 zf_Mo_72 (zmo_m _ _ _ _) rfl ?_
                    refine z_icmp_lt (tgt := 121) d_Mo_putting_116 (by decide) (fun h116 => ?_) (fun h116 => ?_)
                    · skip
                      exact t_Mo_putting g k0 m ad N i k v u _ hA hi hit (by first | rw [if_pos hpr] | rw [if_neg hpr]) b1 b2 b3 h116
                    · skip
                      refine z_iconst (v := (-1)) d_Mo_putting_119 (by decide) ?_
                      refine z_ireturn d_Mo_putting_120 rfl ?_ (by decide) (by decide)
                      rw [show puM N i k v u = _ from by unfold puM; rw [if_neg b1, if_neg b2, if_neg b3, if_pos h116]]
                      exact ⟨rfl, rfl⟩
                  · skip
                    refine z_aload_n d_Mo_putting_95 rfl ?_
                    refine z_iload_n d_Mo_putting_96 rfl ?_
                    refine z_callV gt_good d_Mo_putting_97 zv_Mo_109 (zmo_m _ _ _ _) rfl (fun l => c_Mo_lockOf l g m ad N (nI i) hA (by omega)) rfl rfl ⟨Nat.le_of_ble_eq_true rfl, Nat.le_of_ble_eq_true rfl⟩ (Nat.le_of_ble_eq_true rfl) (Nat.le_of_ble_eq_true rfl) (Nat.le_of_ble_eq_true rfl) ?_
                    rintro _ _ ⟨rfl, rfl⟩
                    refine z_iload d_Mo_putting_100 rfl ?_
                    refine z_icmp_eq (tgt := 108) d_Mo_putting_102 (by decide) (fun h102 => ?_) (fun h102 => ?_)
                    · skip
                      have b3 : ¬ puL N i k u := fun h => h.2.2 h102
                      refine z_aload_n d_Mo_putting_108 rfl ?_
                      refine z_get d_Mo_putting_109 zf_Mo_79 (zmo_m _ _ _ _) rfl ?_
                      refine z_aload_n d_Mo_putting_112 rfl ?_
                      refine z_get d_Mo_putting_113 zf_Mo_72 (zmo_m _ _ _ _) rfl ?_
                      refine z_icmp_lt (tgt := 121) d_Mo_putting_116 (by decide) (fun h116 => ?_) (fun h116 => ?_)
                      · skip
                        exact t_Mo_putting g k0 m ad N i k v u _ hA hi hit (by first | rw [if_pos hpr] | rw [if_neg hpr]) b1 b2 b3 h116
                      · skip
                        refine z_iconst (v := (-1)) d_Mo_putting_119 (by decide) ?_
                        refine z_ireturn d_Mo_putting_120 rfl ?_ (by decide) (by decide)
                        rw [show puM N i k v u = _ from by unfold puM; rw [if_neg b1, if_neg b2, if_neg b3, if_pos h116]]
                        exact ⟨rfl, rfl⟩
                    · skip
                      have b3 : puL N i k u := ⟨hpr, h92, h102⟩
                      refine z_bipush (v := (-5)) d_Mo_putting_105 (by decide) ?_
                      refine z_ireturn d_Mo_putting_107 rfl ?_ (by decide) (by decide)
                      rw [show puM N i k v u = _ from by unfold puM; rw [if_neg b1, if_neg b2, if_pos b3]]
                      exact ⟨rfl, rfl⟩
              · skip
                have b2 : puK N i k := Or.inr ⟨h57, k2_lt h62⟩
                refine z_bipush (v := (-3)) d_Mo_putting_65 (by decide) ?_
                refine z_ireturn d_Mo_putting_67 rfl ?_ (by decide) (by decide)
                rw [show puM N i k v u = _ from by unfold puM; rw [if_neg b1, if_pos b2]]
                exact ⟨rfl, rfl⟩
          · skip
            refine z_aload_n d_Mo_putting_41 rfl ?_
            refine z_get d_Mo_putting_42 zf_Mo_23 (zmo_m _ _ _ _) rfl ?_
            refine z_iload_n d_Mo_putting_45 rfl ?_
            refine z_iald d_Mo_putting_46 (rd_7 hA _) rfl (by first | omega | (dsimp only [sI, sL, sS, sN, sW]; omega) | (simp only [sI, sL, sS, sN, sW, va_up_self]; omega) | (simp [sI, sL, sS, sN, sW, va_up]; omega)) (ri_get (by first | omega | (dsimp only [sI, sL, sS, sN, sW]; omega) | (simp only [sI, sL, sS, sN, sW, va_up_self]; omega) | (simp [sI, sL, sS, sN, sW, va_up]; omega))) ?_
            refine z_iload_n d_Mo_putting_47 rfl ?_
            refine z_icmp_ne (tgt := 65) d_Mo_putting_48 (by decide) (fun h48 => ?_) (fun h48 => ?_)
            · skip
              have b2 : puK N i k := Or.inl ⟨h38, h48⟩
              refine z_bipush (v := (-3)) d_Mo_putting_65 (by decide) ?_
              refine z_ireturn d_Mo_putting_67 rfl ?_ (by decide) (by decide)
              rw [show puM N i k v u = _ from by unfold puM; rw [if_neg b1, if_pos b2]]
              exact ⟨rfl, rfl⟩
            · skip
              have hkk : ¬ (¬ N.2.2.1 7 i = -1 ∧ ¬ N.2.2.1 7 i = k) := fun h => h.2 h48
              refine z_aload_n d_Mo_putting_51 rfl ?_
              refine z_get d_Mo_putting_52 zf_Mo_29 (zmo_m _ _ _ _) rfl ?_
              refine z_iload_n d_Mo_putting_55 rfl ?_
              refine z_iald d_Mo_putting_56 (rd_9 hA _) rfl (by first | omega | (dsimp only [sI, sL, sS, sN, sW]; omega) | (simp only [sI, sL, sS, sN, sW, va_up_self]; omega) | (simp [sI, sL, sS, sN, sW, va_up]; omega)) (ri_get (by first | omega | (dsimp only [sI, sL, sS, sN, sW]; omega) | (simp only [sI, sL, sS, sN, sW, va_up_self]; omega) | (simp [sI, sL, sS, sN, sW, va_up]; omega))) ?_
              refine z_if_le (tgt := 68) d_Mo_putting_57 (by decide) (fun h57 => ?_) (fun h57 => ?_)
              · skip
                have b2 : ¬ puK N i k := fun h => h.elim hkk (fun h => h.1 h57)
                refine z_iload_n d_Mo_putting_68 rfl ?_
                refine z_iconst (v := 2) d_Mo_putting_69 (by decide) ?_
                refine z_irem d_Mo_putting_70 (by decide) ?_
                refine z_iconst (v := 1) d_Mo_putting_71 (by decide) ?_
                refine z_icmp_ne (tgt := 79) d_Mo_putting_72 (by decide) (fun h72 => ?_) (fun h72 => ?_)
                · skip
                  have hpr : ¬ kProt k := fun h => h72 ((k_prot (fun h => b1 (Or.inl h)) (fun h => b1 (Or.inr (Or.inl h)))).mpr h)
                  refine z_iconst (v := 0) d_Mo_putting_79 (by decide) ?_
                  refine z_istore d_Mo_putting_80 (by decide) rfl ?_
                  have b3 : ¬ puL N i k u := fun h => hpr h.1
                  refine z_iload d_Mo_putting_82 rfl ?_
                  refine z_if_eq (tgt := 108) d_Mo_putting_84 (by decide) (fun h84 => ?_) (fun h84 => False.elim (h84 rfl))
                  refine z_aload_n d_Mo_putting_108 rfl ?_
                  refine z_get d_Mo_putting_109 zf_Mo_79 (zmo_m _ _ _ _) rfl ?_
                  refine z_aload_n d_Mo_putting_112 rfl ?_
                  refine z_get d_Mo_putting_113 zf_Mo_72 (zmo_m _ _ _ _) rfl ?_
                  refine z_icmp_lt (tgt := 121) d_Mo_putting_116 (by decide) (fun h116 => ?_) (fun h116 => ?_)
                  · skip
                    exact t_Mo_putting g k0 m ad N i k v u _ hA hi hit (by first | rw [if_pos hpr] | rw [if_neg hpr]) b1 b2 b3 h116
                  · skip
                    refine z_iconst (v := (-1)) d_Mo_putting_119 (by decide) ?_
                    refine z_ireturn d_Mo_putting_120 rfl ?_ (by decide) (by decide)
                    rw [show puM N i k v u = _ from by unfold puM; rw [if_neg b1, if_neg b2, if_neg b3, if_pos h116]]
                    exact ⟨rfl, rfl⟩
                · skip
                  have hpr : kProt k := (k_prot (fun h => b1 (Or.inl h)) (fun h => b1 (Or.inr (Or.inl h)))).mp h72
                  refine z_iconst (v := 1) d_Mo_putting_75 (by decide) ?_
                  refine z_goto (tgt := 80) d_Mo_putting_76 (by decide) ?_
                  refine z_istore d_Mo_putting_80 (by decide) rfl ?_
                  refine z_iload d_Mo_putting_82 rfl ?_
                  refine z_if_eq (tgt := 108) d_Mo_putting_84 (by decide) (fun h84 => False.elim (absurd h84 (by decide))) (fun h84 => ?_)
                  refine z_aload_n d_Mo_putting_87 rfl ?_
                  refine z_iload_n d_Mo_putting_88 rfl ?_
                  refine z_callV gt_good d_Mo_putting_89 zv_Mo_109 (zmo_m _ _ _ _) rfl (fun l => c_Mo_lockOf l g m ad N (nI i) hA (by omega)) rfl rfl ⟨Nat.le_of_ble_eq_true rfl, Nat.le_of_ble_eq_true rfl⟩ (Nat.le_of_ble_eq_true rfl) (Nat.le_of_ble_eq_true rfl) (Nat.le_of_ble_eq_true rfl) ?_
                  rintro _ _ ⟨rfl, rfl⟩
                  refine z_if_eq (tgt := 108) d_Mo_putting_92 (by decide) (fun h92 => ?_) (fun h92 => ?_)
                  · skip
                    have b3 : ¬ puL N i k u := fun h => h.2.1 h92
                    refine z_aload_n d_Mo_putting_108 rfl ?_
                    refine z_get d_Mo_putting_109 zf_Mo_79 (zmo_m _ _ _ _) rfl ?_
                    refine z_aload_n d_Mo_putting_112 rfl ?_
                    refine z_get d_Mo_putting_113 zf_Mo_72 (zmo_m _ _ _ _) rfl ?_
                    refine z_icmp_lt (tgt := 121) d_Mo_putting_116 (by decide) (fun h116 => ?_) (fun h116 => ?_)
                    · skip
                      exact t_Mo_putting g k0 m ad N i k v u _ hA hi hit (by first | rw [if_pos hpr] | rw [if_neg hpr]) b1 b2 b3 h116
                    · skip
                      refine z_iconst (v := (-1)) d_Mo_putting_119 (by decide) ?_
                      refine z_ireturn d_Mo_putting_120 rfl ?_ (by decide) (by decide)
                      rw [show puM N i k v u = _ from by unfold puM; rw [if_neg b1, if_neg b2, if_neg b3, if_pos h116]]
                      exact ⟨rfl, rfl⟩
                  · skip
                    refine z_aload_n d_Mo_putting_95 rfl ?_
                    refine z_iload_n d_Mo_putting_96 rfl ?_
                    refine z_callV gt_good d_Mo_putting_97 zv_Mo_109 (zmo_m _ _ _ _) rfl (fun l => c_Mo_lockOf l g m ad N (nI i) hA (by omega)) rfl rfl ⟨Nat.le_of_ble_eq_true rfl, Nat.le_of_ble_eq_true rfl⟩ (Nat.le_of_ble_eq_true rfl) (Nat.le_of_ble_eq_true rfl) (Nat.le_of_ble_eq_true rfl) ?_
                    rintro _ _ ⟨rfl, rfl⟩
                    refine z_iload d_Mo_putting_100 rfl ?_
                    refine z_icmp_eq (tgt := 108) d_Mo_putting_102 (by decide) (fun h102 => ?_) (fun h102 => ?_)
                    · skip
                      have b3 : ¬ puL N i k u := fun h => h.2.2 h102
                      refine z_aload_n d_Mo_putting_108 rfl ?_
                      refine z_get d_Mo_putting_109 zf_Mo_79 (zmo_m _ _ _ _) rfl ?_
                      refine z_aload_n d_Mo_putting_112 rfl ?_
                      refine z_get d_Mo_putting_113 zf_Mo_72 (zmo_m _ _ _ _) rfl ?_
                      refine z_icmp_lt (tgt := 121) d_Mo_putting_116 (by decide) (fun h116 => ?_) (fun h116 => ?_)
                      · skip
                        exact t_Mo_putting g k0 m ad N i k v u _ hA hi hit (by first | rw [if_pos hpr] | rw [if_neg hpr]) b1 b2 b3 h116
                      · skip
                        refine z_iconst (v := (-1)) d_Mo_putting_119 (by decide) ?_
                        refine z_ireturn d_Mo_putting_120 rfl ?_ (by decide) (by decide)
                        rw [show puM N i k v u = _ from by unfold puM; rw [if_neg b1, if_neg b2, if_neg b3, if_pos h116]]
                        exact ⟨rfl, rfl⟩
                    · skip
                      have b3 : puL N i k u := ⟨hpr, h92, h102⟩
                      refine z_bipush (v := (-5)) d_Mo_putting_105 (by decide) ?_
                      refine z_ireturn d_Mo_putting_107 rfl ?_ (by decide) (by decide)
                      rw [show puM N i k v u = _ from by unfold puM; rw [if_neg b1, if_neg b2, if_pos b3]]
                      exact ⟨rfl, rfl⟩
              · skip
                refine z_iload_n d_Mo_putting_60 rfl ?_
                refine z_iconst (v := 2) d_Mo_putting_61 (by decide) ?_
                refine z_icmp_ge (tgt := 68) d_Mo_putting_62 (by decide) (fun h62 => ?_) (fun h62 => ?_)
                · skip
                  have b2 : ¬ puK N i k := fun h => h.elim hkk (fun h => k2_nlt h62 h.2)
                  refine z_iload_n d_Mo_putting_68 rfl ?_
                  refine z_iconst (v := 2) d_Mo_putting_69 (by decide) ?_
                  refine z_irem d_Mo_putting_70 (by decide) ?_
                  refine z_iconst (v := 1) d_Mo_putting_71 (by decide) ?_
                  refine z_icmp_ne (tgt := 79) d_Mo_putting_72 (by decide) (fun h72 => ?_) (fun h72 => ?_)
                  · skip
                    have hpr : ¬ kProt k := fun h => h72 ((k_prot (fun h => b1 (Or.inl h)) (fun h => b1 (Or.inr (Or.inl h)))).mpr h)
                    refine z_iconst (v := 0) d_Mo_putting_79 (by decide) ?_
                    refine z_istore d_Mo_putting_80 (by decide) rfl ?_
                    have b3 : ¬ puL N i k u := fun h => hpr h.1
                    refine z_iload d_Mo_putting_82 rfl ?_
                    refine z_if_eq (tgt := 108) d_Mo_putting_84 (by decide) (fun h84 => ?_) (fun h84 => False.elim (h84 rfl))
                    refine z_aload_n d_Mo_putting_108 rfl ?_
                    refine z_get d_Mo_putting_109 zf_Mo_79 (zmo_m _ _ _ _) rfl ?_
                    refine z_aload_n d_Mo_putting_112 rfl ?_
                    refine z_get d_Mo_putting_113 zf_Mo_72 (zmo_m _ _ _ _) rfl ?_
                    refine z_icmp_lt (tgt := 121) d_Mo_putting_116 (by decide) (fun h116 => ?_) (fun h116 => ?_)
                    · skip
                      exact t_Mo_putting g k0 m ad N i k v u _ hA hi hit (by first | rw [if_pos hpr] | rw [if_neg hpr]) b1 b2 b3 h116
                    · skip
                      refine z_iconst (v := (-1)) d_Mo_putting_119 (by decide) ?_
                      refine z_ireturn d_Mo_putting_120 rfl ?_ (by decide) (by decide)
                      rw [show puM N i k v u = _ from by unfold puM; rw [if_neg b1, if_neg b2, if_neg b3, if_pos h116]]
                      exact ⟨rfl, rfl⟩
                  · skip
                    have hpr : kProt k := (k_prot (fun h => b1 (Or.inl h)) (fun h => b1 (Or.inr (Or.inl h)))).mp h72
                    refine z_iconst (v := 1) d_Mo_putting_75 (by decide) ?_
                    refine z_goto (tgt := 80) d_Mo_putting_76 (by decide) ?_
                    refine z_istore d_Mo_putting_80 (by decide) rfl ?_
                    refine z_iload d_Mo_putting_82 rfl ?_
                    refine z_if_eq (tgt := 108) d_Mo_putting_84 (by decide) (fun h84 => False.elim (absurd h84 (by decide))) (fun h84 => ?_)
                    refine z_aload_n d_Mo_putting_87 rfl ?_
                    refine z_iload_n d_Mo_putting_88 rfl ?_
                    refine z_callV gt_good d_Mo_putting_89 zv_Mo_109 (zmo_m _ _ _ _) rfl (fun l => c_Mo_lockOf l g m ad N (nI i) hA (by omega)) rfl rfl ⟨Nat.le_of_ble_eq_true rfl, Nat.le_of_ble_eq_true rfl⟩ (Nat.le_of_ble_eq_true rfl) (Nat.le_of_ble_eq_true rfl) (Nat.le_of_ble_eq_true rfl) ?_
                    rintro _ _ ⟨rfl, rfl⟩
                    refine z_if_eq (tgt := 108) d_Mo_putting_92 (by decide) (fun h92 => ?_) (fun h92 => ?_)
                    · skip
                      have b3 : ¬ puL N i k u := fun h => h.2.1 h92
                      refine z_aload_n d_Mo_putting_108 rfl ?_
                      refine z_get d_Mo_putting_109 zf_Mo_79 (zmo_m _ _ _ _) rfl ?_
                      refine z_aload_n d_Mo_putting_112 rfl ?_
                      refine z_get d_Mo_putting_113 zf_Mo_72 (zmo_m _ _ _ _) rfl ?_
                      refine z_icmp_lt (tgt := 121) d_Mo_putting_116 (by decide) (fun h116 => ?_) (fun h116 => ?_)
                      · skip
                        exact t_Mo_putting g k0 m ad N i k v u _ hA hi hit (by first | rw [if_pos hpr] | rw [if_neg hpr]) b1 b2 b3 h116
                      · skip
                        refine z_iconst (v := (-1)) d_Mo_putting_119 (by decide) ?_
                        refine z_ireturn d_Mo_putting_120 rfl ?_ (by decide) (by decide)
                        rw [show puM N i k v u = _ from by unfold puM; rw [if_neg b1, if_neg b2, if_neg b3, if_pos h116]]
                        exact ⟨rfl, rfl⟩
                    · skip
                      refine z_aload_n d_Mo_putting_95 rfl ?_
                      refine z_iload_n d_Mo_putting_96 rfl ?_
                      refine z_callV gt_good d_Mo_putting_97 zv_Mo_109 (zmo_m _ _ _ _) rfl (fun l => c_Mo_lockOf l g m ad N (nI i) hA (by omega)) rfl rfl ⟨Nat.le_of_ble_eq_true rfl, Nat.le_of_ble_eq_true rfl⟩ (Nat.le_of_ble_eq_true rfl) (Nat.le_of_ble_eq_true rfl) (Nat.le_of_ble_eq_true rfl) ?_
                      rintro _ _ ⟨rfl, rfl⟩
                      refine z_iload d_Mo_putting_100 rfl ?_
                      refine z_icmp_eq (tgt := 108) d_Mo_putting_102 (by decide) (fun h102 => ?_) (fun h102 => ?_)
                      · skip
                        have b3 : ¬ puL N i k u := fun h => h.2.2 h102
                        refine z_aload_n d_Mo_putting_108 rfl ?_
                        refine z_get d_Mo_putting_109 zf_Mo_79 (zmo_m _ _ _ _) rfl ?_
                        refine z_aload_n d_Mo_putting_112 rfl ?_
                        refine z_get d_Mo_putting_113 zf_Mo_72 (zmo_m _ _ _ _) rfl ?_
                        refine z_icmp_lt (tgt := 121) d_Mo_putting_116 (by decide) (fun h116 => ?_) (fun h116 => ?_)
                        · skip
                          exact t_Mo_putting g k0 m ad N i k v u _ hA hi hit (by first | rw [if_pos hpr] | rw [if_neg hpr]) b1 b2 b3 h116
                        · skip
                          refine z_iconst (v := (-1)) d_Mo_putting_119 (by decide) ?_
                          refine z_ireturn d_Mo_putting_120 rfl ?_ (by decide) (by decide)
                          rw [show puM N i k v u = _ from by unfold puM; rw [if_neg b1, if_neg b2, if_neg b3, if_pos h116]]
                          exact ⟨rfl, rfl⟩
                      · skip
                        have b3 : puL N i k u := ⟨hpr, h92, h102⟩
                        refine z_bipush (v := (-5)) d_Mo_putting_105 (by decide) ?_
                        refine z_ireturn d_Mo_putting_107 rfl ?_ (by decide) (by decide)
                        rw [show puM N i k v u = _ from by unfold puM; rw [if_neg b1, if_neg b2, if_pos b3]]
                        exact ⟨rfl, rfl⟩
                · skip
                  have b2 : puK N i k := Or.inr ⟨h57, k2_lt h62⟩
                  refine z_bipush (v := (-3)) d_Mo_putting_65 (by decide) ?_
                  refine z_ireturn d_Mo_putting_67 rfl ?_ (by decide) (by decide)
                  rw [show puM N i k v u = _ from by unfold puM; rw [if_neg b1, if_pos b2]]
                  exact ⟨rfl, rfl⟩
        · skip
          have b1 : puB k u := Or.inr (Or.inr (Or.inr (k2_lt h25)))
          refine z_bipush (v := (-2)) d_Mo_putting_28 (by decide) ?_
          refine z_ireturn d_Mo_putting_30 rfl ?_ (by decide) (by decide)
          rw [show puM N i k v u = _ from by unfold puM; rw [if_pos b1]]
          exact ⟨rfl, rfl⟩
