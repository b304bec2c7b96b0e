set_option maxHeartbeats 4000000 in
set_option maxRecDepth 100000 in
theorem lp_arrS0 {l : Launch} {σ : aw_S} {Post : Option Value → aw_S → Prop} {tw cs : Bool} (hR : σ.2.2 = RF tw cs) {N c r : Int} {m : mS} (hC : cityM σ m) (wC : wfCity m) (hM : dayM σ m) (w1 : wfD1 m N c) (hX : wfComer m N c r) (hN : 0 ≤ N ∧ N ≤ 1000) (hst : m (100 + c) 1 = 1) (hk : ∀ σ', dayM σ' (marr m c r) → frM σ σ' → Post none σ') (hby : ¬ (m (100 + c) 5 = r ∧ m 0 3 ≤ m (100 + c) 6)) (hms : mayst m r (m (100 + c) 0) (m 0 3 / 60 % 24) 0) (hroom : m 10 r < m 2 r + m 3 r)  : ∀ (n : Nat) (k : Int), ((k - (m 10 r)).toNat ≤ n) → ((m 10 r) ≤ k ∧ k ≤ m 10 r) → AW l yX10_arrives cX10_arrives 6 (none : Option Jvm.ClassFile.FieldType) 2 48 0 0 SH Post SH 0 0 (aw_sa σ 183 (fun j => if 18 * r + k < j ∧ j ≤ 18 * r + m 10 r then σ.1 183 (j - 1) else σ.1 183 j)) 149 [some (.ref 171), some (.int (jI c)), some (.int (jI r)), some (.int (jI 0)), some (.int (jI (m 10 r))), some (.int (jI k))] [] := by
  intro n
  induction n with
  | zero =>
    intro k hm hkk
    obtain ⟨c1, c2, c3, c4, c5, c6, c7⟩ := id hC
    obtain ⟨y1, y2, y3, y4, y5, y6, y7, y8⟩ := id wC
    obtain ⟨d1, d2, d3, d4, d5, d6, d7⟩ := id hM
    obtain ⟨v1, v2, v3, v4, v5, v6, v7, v8⟩ := id w1
    obtain ⟨x1, ⟨x2, x2a, x2b⟩, x3, x4, x5, x6, x7, x8, x9⟩ := id hX
    simp only [Int.zero_add] at d4 d5 d6 d7
    have cr := c2 r (by omega) (by omega)
    have yr := y2 r (by omega) (by omega)
    have vr := v4 r (by omega) (by omega)
    have dr := d4 r (by omega) (by omega)
    have kc := d5 c (by omega) (by omega)
    unfold cabM at kc
    obtain ⟨k0, k9, k1, k2, k3, k4, k5, k6, k7, k8, k10⟩ := kc
    have k2 := (k2 (Or.inl hst)).trans x2
    have hlt : m 10 r < m 0 4 := pig_c x1 vr.1.1 (fun k k1 k2 => by have := v6 r k (by omega) (by omega) k1 k2; exact ⟨this.1, this.2.1⟩) (fun k j k1 k2 j1 j2 q => v7 r k j (by omega) (by omega) k1 k2 j1 j2 q)
    refine a_ild5 eX10_arrives_149 ?_
    refine a_ild4 eX10_arrives_151 ?_
    refine a_icmp_le 188 eX10_arrives_153 (by decide) (by omega) (fun hT153 => ?_) (fun hF153 => ?_)
    · skip
      refine a_ald0 eX10_arrives_188 ?_
      refine a_getR 24 183 eX10_arrives_189 fl_X10_45 rfl rfl sh_171 ((congrFun (congrFun hR _) _).trans rf_171_24) ?_
      refine a_bipush eX10_arrives_192 (by decide) ?_
      refine a_ild2 eX10_arrives_194 ?_
      refine a_imul eX10_arrives_195 ?_
      refine a_ild4 eX10_arrives_196 ?_
      refine a_iadd eX10_arrives_198 ?_
      refine a_ild1 eX10_arrives_199 ?_
      refine a_iast eX10_arrives_200 sh_183 rfl (by omega) ?_
      refine a_ald0 eX10_arrives_201 ?_
      refine a_getR 25 184 eX10_arrives_202 fl_X10_48 rfl rfl sh_171 ((congrFun (congrFun hR _) _).trans rf_171_25) ?_
      refine a_ild2 eX10_arrives_205 ?_
      refine a_dup2 eX10_arrives_206 rfl rfl ?_
      refine a_iald eX10_arrives_207 sh_184 rfl (by omega) ?_
      refine a_eqtop (y0 := m 10 r) (by (simp only [rd_si, rd_sa, and_self, true_and, and_true, ↓reduceIte]; (repeat (first | rw [if_pos (by omega)] | rw [if_neg (by omega)])); (try omega))) ?_
      refine a_iconst eX10_arrives_208 ?_
      refine a_iadd eX10_arrives_209 ?_
      refine a_iast eX10_arrives_210 sh_184 rfl (by omega) ?_
      refine a_ald0 eX10_arrives_211 ?_
      refine a_ild1 eX10_arrives_212 ?_
      refine a_iconst eX10_arrives_213 ?_
      refine a_iconst eX10_arrives_214 ?_
      refine a_cV3 eX10_arrives_215 lk_X10_269 mV_X10_sets sh_171 ⟨_, rfl, rfl⟩ mt_X10_sets rfl rfl rfl rfl rfl rfl rfl (c_X10_sets hR (by omega) ?_)
      dsimp only [Option.toList, List.cons_append, List.nil_append]
      refine a_ald0 eX10_arrives_218 ?_
      refine a_ild1 eX10_arrives_219 ?_
      refine a_bipush eX10_arrives_220 (by decide) ?_
      refine a_ild3 eX10_arrives_222 ?_
      refine a_if_eq 230 eX10_arrives_223 (by decide) (by omega) (fun _ => ?_) (fun h => absurd h (by decide))
      refine a_iconst eX10_arrives_230 ?_
      refine a_cV3 eX10_arrives_231 lk_X10_269 mV_X10_sets sh_171 ⟨_, rfl, rfl⟩ mt_X10_sets rfl rfl rfl rfl rfl rfl rfl (c_X10_sets hR (by omega) ?_)
      dsimp only [Option.toList, List.cons_append, List.nil_append]
      refine a_ild3 eX10_arrives_234 ?_
      refine a_if_ne 239 eX10_arrives_235 (by decide) (by omega) (fun h => absurd h (by decide)) (fun _ => ?_)
      refine AW.gen (fun σ3 hσ3 => ?_)
      have h3o : ∀ (a : Nat) (j : Int), a ≠ 182 → a ≠ 183 → ¬ (a = 184 ∧ j = r) → σ3.1 a j = σ.1 a j := fun a j q1 q2 q3 => by rw [hσ3]; simp only [rd_si, rd_sa]; (repeat rw [if_neg (by omega)])
      have h3s : σ3.1 184 r = m 10 r + 1 := by rw [hσ3]; (simp only [rd_si, rd_sa, and_self, true_and, and_true, ↓reduceIte]; (repeat (first | rw [if_pos (by omega)] | rw [if_neg (by omega)])); (try omega))
      have h3w : ∀ j : Int, σ3.1 183 j = if j = 18 * r + (m 10 r) then c else if 18 * r + (m 10 r) < j ∧ j ≤ 18 * r + m 10 r then σ.1 183 (j - 1) else σ.1 183 j := fun j => by
        rw [hσ3]
        simp only [rd_si, rd_sa, true_and, ↓reduceIte]
        rw [show k = (m 10 r) by omega]
        simp
      have h3f : ∀ j : Int, σ3.1 182 j = if j = 11 * c + 10 then 0 else if j = 11 * c then 2 else σ.1 182 j := fun j => by
        rw [hσ3]
        simp only [rd_si, rd_sa, true_and, Int.add_zero]
        simp
      have hR : σ3.2.2 = RF tw cs := by rw [hσ3]; exact hR
      have fr3 : frM σ σ3 := ⟨fun a j h h9 => h3o a j (by omega) (by omega) (by omega), by rw [hσ3]; rfl⟩
      have hrow : dayM (aw_sa σ3 182 (σ.1 182)) (mrow m r (m 10 r) c) := by
        refine dayM_row (by omega) (by omega) (fun x q1 q2 => by have := v4 x q1 q2; omega) (by omega) (rowD_ins x2a) hM (fun a j q1 q2 => ?_) ?_ (fun j j1 j2 => ?_)
        · by_cases q : a = 182
          · rw [q, rd_sa_eq]
          · rw [rd_sa_ne q]
            by_cases q3 : a = 183
            · subst q3
              rw [h3w, if_neg (by omega), if_neg (by omega)]
            · exact h3o a j q q3 q2
        · rw [rd_sa_ne (by omega), h3s]
        · rw [rd_sa_ne (by omega), h3w]
          by_cases q1 : j < (m 10 r)
          · rw [if_neg (by omega), if_neg (by omega), if_pos q1]; exact d6 r j (by omega) (by omega) j1 (by omega)
          · rw [if_neg q1]
            by_cases q2 : j = (m 10 r)
            · rw [if_pos (by omega), if_pos q2]
            · rw [if_neg (by omega), if_pos (by omega), if_neg q2, show (18 * r + j - 1 : Int) = 18 * r + (j - 1) by omega]; exact d6 r (j - 1) (by omega) (by omega) (by omega) (by omega)
      have hD3 : dayM σ3 (upr (mrow m r (m 10 r) c) (100 + c) (xst m c r 0)) := by
        have e4 : mrow m r (m 10 r) c 0 4 = m 0 4 := mrow_ne (by omega) (by omega)
        refine dayM_cab (by rw [e4]; exact x1) (by rw [e4]; omega) hrow (fun a j q => ?_) ?_
        · by_cases z : a = 182
          · subst z
            rw [rd_sa_eq, h3f]
            (repeat rw [if_neg (by omega)])
          · rw [rd_sa_ne z]
        · unfold cabM
          simp only [h3f]
          simp only [xst]
          refine ⟨?_, ?_, ?_, ?_, ?_, ?_, ?_, ?_, ?_, ?_, ?_⟩
          · (repeat (first | rw [if_pos (by omega)] | rw [if_neg (by omega)])); (try rfl)
          · (repeat (first | rw [if_pos (by omega)] | rw [if_neg (by omega)])); exact k9
          · intro q; simp at q
          · intro _; (repeat (first | rw [if_pos (by omega)] | rw [if_neg (by omega)])); exact k2
          · intro q; simp at q
          · (repeat (first | rw [if_pos (by omega)] | rw [if_neg (by omega)] | rw [if_pos True.intro])); (first | done | exact k4 | simp)
          · (repeat (first | rw [if_pos (by omega)] | rw [if_neg (by omega)] | rw [if_pos True.intro])); (first | done | exact k5 | simp)
          · (repeat (first | rw [if_pos (by omega)] | rw [if_neg (by omega)])); exact k6
          · (repeat (first | rw [if_pos (by omega)] | rw [if_neg (by omega)])); exact k7
          · (repeat (first | rw [if_pos (by omega)] | rw [if_neg (by omega)])); exact k8
          · (repeat (first | rw [if_pos (by omega)] | rw [if_neg (by omega)])); (try rfl)
      refine a_vret eX10_arrives_238 rfl rfl ⟨Nat.zero_le _, Nat.zero_le _⟩ ?_
      refine hk σ3 ?_ fr3
      rw [show marr m c r = upr (mrow m r (m 10 r) c) (100 + c) (xst m c r 0) from (if_pos ⟨hms, hroom⟩).trans (if_neg hby)]
      exact hD3
    · skip
      exfalso; omega
  | succ n ih =>
    intro k hm hkk
    obtain ⟨c1, c2, c3, c4, c5, c6, c7⟩ := id hC
    obtain ⟨y1, y2, y3, y4, y5, y6, y7, y8⟩ := id wC
    obtain ⟨d1, d2, d3, d4, d5, d6, d7⟩ := id hM
    obtain ⟨v1, v2, v3, v4, v5, v6, v7, v8⟩ := id w1
    obtain ⟨x1, ⟨x2, x2a, x2b⟩, x3, x4, x5, x6, x7, x8, x9⟩ := id hX
    simp only [Int.zero_add] at d4 d5 d6 d7
    have cr := c2 r (by omega) (by omega)
    have yr := y2 r (by omega) (by omega)
    have vr := v4 r (by omega) (by omega)
    have dr := d4 r (by omega) (by omega)
    have kc := d5 c (by omega) (by omega)
    unfold cabM at kc
    obtain ⟨k0, k9, k1, k2, k3, k4, k5, k6, k7, k8, k10⟩ := kc
    have k2 := (k2 (Or.inl hst)).trans x2
    have hlt : m 10 r < m 0 4 := pig_c x1 vr.1.1 (fun k k1 k2 => by have := v6 r k (by omega) (by omega) k1 k2; exact ⟨this.1, this.2.1⟩) (fun k j k1 k2 j1 j2 q => v7 r k j (by omega) (by omega) k1 k2 j1 j2 q)
    refine a_ild5 eX10_arrives_149 ?_
    refine a_ild4 eX10_arrives_151 ?_
    refine a_icmp_le 188 eX10_arrives_153 (by decide) (by omega) (fun hT153 => ?_) (fun hF153 => ?_)
    · skip
      refine a_ald0 eX10_arrives_188 ?_
      refine a_getR 24 183 eX10_arrives_189 fl_X10_45 rfl rfl sh_171 ((congrFun (congrFun hR _) _).trans rf_171_24) ?_
      refine a_bipush eX10_arrives_192 (by decide) ?_
      refine a_ild2 eX10_arrives_194 ?_
      refine a_imul eX10_arrives_195 ?_
      refine a_ild4 eX10_arrives_196 ?_
      refine a_iadd eX10_arrives_198 ?_
      refine a_ild1 eX10_arrives_199 ?_
      refine a_iast eX10_arrives_200 sh_183 rfl (by omega) ?_
      refine a_ald0 eX10_arrives_201 ?_
      refine a_getR 25 184 eX10_arrives_202 fl_X10_48 rfl rfl sh_171 ((congrFun (congrFun hR _) _).trans rf_171_25) ?_
      refine a_ild2 eX10_arrives_205 ?_
      refine a_dup2 eX10_arrives_206 rfl rfl ?_
      refine a_iald eX10_arrives_207 sh_184 rfl (by omega) ?_
      refine a_eqtop (y0 := m 10 r) (by (simp only [rd_si, rd_sa, and_self, true_and, and_true, ↓reduceIte]; (repeat (first | rw [if_pos (by omega)] | rw [if_neg (by omega)])); (try omega))) ?_
      refine a_iconst eX10_arrives_208 ?_
      refine a_iadd eX10_arrives_209 ?_
      refine a_iast eX10_arrives_210 sh_184 rfl (by omega) ?_
      refine a_ald0 eX10_arrives_211 ?_
      refine a_ild1 eX10_arrives_212 ?_
      refine a_iconst eX10_arrives_213 ?_
      refine a_iconst eX10_arrives_214 ?_
      refine a_cV3 eX10_arrives_215 lk_X10_269 mV_X10_sets sh_171 ⟨_, rfl, rfl⟩ mt_X10_sets rfl rfl rfl rfl rfl rfl rfl (c_X10_sets hR (by omega) ?_)
      dsimp only [Option.toList, List.cons_append, List.nil_append]
      refine a_ald0 eX10_arrives_218 ?_
      refine a_ild1 eX10_arrives_219 ?_
      refine a_bipush eX10_arrives_220 (by decide) ?_
      refine a_ild3 eX10_arrives_222 ?_
      refine a_if_eq 230 eX10_arrives_223 (by decide) (by omega) (fun _ => ?_) (fun h => absurd h (by decide))
      refine a_iconst eX10_arrives_230 ?_
      refine a_cV3 eX10_arrives_231 lk_X10_269 mV_X10_sets sh_171 ⟨_, rfl, rfl⟩ mt_X10_sets rfl rfl rfl rfl rfl rfl rfl (c_X10_sets hR (by omega) ?_)
      dsimp only [Option.toList, List.cons_append, List.nil_append]
      refine a_ild3 eX10_arrives_234 ?_
      refine a_if_ne 239 eX10_arrives_235 (by decide) (by omega) (fun h => absurd h (by decide)) (fun _ => ?_)
      refine AW.gen (fun σ3 hσ3 => ?_)
      have h3o : ∀ (a : Nat) (j : Int), a ≠ 182 → a ≠ 183 → ¬ (a = 184 ∧ j = r) → σ3.1 a j = σ.1 a j := fun a j q1 q2 q3 => by rw [hσ3]; simp only [rd_si, rd_sa]; (repeat rw [if_neg (by omega)])
      have h3s : σ3.1 184 r = m 10 r + 1 := by rw [hσ3]; (simp only [rd_si, rd_sa, and_self, true_and, and_true, ↓reduceIte]; (repeat (first | rw [if_pos (by omega)] | rw [if_neg (by omega)])); (try omega))
      have h3w : ∀ j : Int, σ3.1 183 j = if j = 18 * r + (m 10 r) then c else if 18 * r + (m 10 r) < j ∧ j ≤ 18 * r + m 10 r then σ.1 183 (j - 1) else σ.1 183 j := fun j => by
        rw [hσ3]
        simp only [rd_si, rd_sa, true_and, ↓reduceIte]
        rw [show k = (m 10 r) by omega]
        simp
      have h3f : ∀ j : Int, σ3.1 182 j = if j = 11 * c + 10 then 0 else if j = 11 * c then 2 else σ.1 182 j := fun j => by
        rw [hσ3]
        simp only [rd_si, rd_sa, true_and, Int.add_zero]
        simp
      have hR : σ3.2.2 = RF tw cs := by rw [hσ3]; exact hR
      have fr3 : frM σ σ3 := ⟨fun a j h h9 => h3o a j (by omega) (by omega) (by omega), by rw [hσ3]; rfl⟩
      have hrow : dayM (aw_sa σ3 182 (σ.1 182)) (mrow m r (m 10 r) c) := by
        refine dayM_row (by omega) (by omega) (fun x q1 q2 => by have := v4 x q1 q2; omega) (by omega) (rowD_ins x2a) hM (fun a j q1 q2 => ?_) ?_ (fun j j1 j2 => ?_)
        · by_cases q : a = 182
          · rw [q, rd_sa_eq]
          · rw [rd_sa_ne q]
            by_cases q3 : a = 183
            · subst q3
              rw [h3w, if_neg (by omega), if_neg (by omega)]
            · exact h3o a j q q3 q2
        · rw [rd_sa_ne (by omega), h3s]
        · rw [rd_sa_ne (by omega), h3w]
          by_cases q1 : j < (m 10 r)
          · rw [if_neg (by omega), if_neg (by omega), if_pos q1]; exact d6 r j (by omega) (by omega) j1 (by omega)
          · rw [if_neg q1]
            by_cases q2 : j = (m 10 r)
            · rw [if_pos (by omega), if_pos q2]
            · rw [if_neg (by omega), if_pos (by omega), if_neg q2, show (18 * r + j - 1 : Int) = 18 * r + (j - 1) by omega]; exact d6 r (j - 1) (by omega) (by omega) (by omega) (by omega)
      have hD3 : dayM σ3 (upr (mrow m r (m 10 r) c) (100 + c) (xst m c r 0)) := by
        have e4 : mrow m r (m 10 r) c 0 4 = m 0 4 := mrow_ne (by omega) (by omega)
        refine dayM_cab (by rw [e4]; exact x1) (by rw [e4]; omega) hrow (fun a j q => ?_) ?_
        · by_cases z : a = 182
          · subst z
            rw [rd_sa_eq, h3f]
            (repeat rw [if_neg (by omega)])
          · rw [rd_sa_ne z]
        · unfold cabM
          simp only [h3f]
          simp only [xst]
          refine ⟨?_, ?_, ?_, ?_, ?_, ?_, ?_, ?_, ?_, ?_, ?_⟩
          · (repeat (first | rw [if_pos (by omega)] | rw [if_neg (by omega)])); (try rfl)
          · (repeat (first | rw [if_pos (by omega)] | rw [if_neg (by omega)])); exact k9
          · intro q; simp at q
          · intro _; (repeat (first | rw [if_pos (by omega)] | rw [if_neg (by omega)])); exact k2
          · intro q; simp at q
          · (repeat (first | rw [if_pos (by omega)] | rw [if_neg (by omega)] | rw [if_pos True.intro])); (first | done | exact k4 | simp)
          · (repeat (first | rw [if_pos (by omega)] | rw [if_neg (by omega)] | rw [if_pos True.intro])); (first | done | exact k5 | simp)
          · (repeat (first | rw [if_pos (by omega)] | rw [if_neg (by omega)])); exact k6
          · (repeat (first | rw [if_pos (by omega)] | rw [if_neg (by omega)])); exact k7
          · (repeat (first | rw [if_pos (by omega)] | rw [if_neg (by omega)])); exact k8
          · (repeat (first | rw [if_pos (by omega)] | rw [if_neg (by omega)])); (try rfl)
      refine a_vret eX10_arrives_238 rfl rfl ⟨Nat.zero_le _, Nat.zero_le _⟩ ?_
      refine hk σ3 ?_ fr3
      rw [show marr m c r = upr (mrow m r (m 10 r) c) (100 + c) (xst m c r 0) from (if_pos ⟨hms, hroom⟩).trans (if_neg hby)]
      exact hD3
    · skip
      refine a_ald0 eX10_arrives_156 ?_
      refine a_getR 24 183 eX10_arrives_157 fl_X10_45 rfl rfl sh_171 ((congrFun (congrFun hR _) _).trans rf_171_24) ?_
      refine a_bipush eX10_arrives_160 (by decide) ?_
      refine a_ild2 eX10_arrives_162 ?_
      refine a_imul eX10_arrives_163 ?_
      refine a_ild5 eX10_arrives_164 ?_
      refine a_iadd eX10_arrives_166 ?_
      refine a_ald0 eX10_arrives_167 ?_
      refine a_getR 24 183 eX10_arrives_168 fl_X10_45 rfl rfl sh_171 ((congrFun (congrFun hR _) _).trans rf_171_24) ?_
      refine a_bipush eX10_arrives_171 (by decide) ?_
      refine a_ild2 eX10_arrives_173 ?_
      refine a_imul eX10_arrives_174 ?_
      refine a_ild5 eX10_arrives_175 ?_
      refine a_iadd eX10_arrives_177 ?_
      refine a_iconst eX10_arrives_178 ?_
      refine a_isub eX10_arrives_179 ?_
      refine a_iald eX10_arrives_180 sh_183 rfl (by omega) ?_
      refine a_eqtop (y0 := σ.1 183 (18 * r + k - 1)) (by (simp only [rd_si, rd_sa, and_self, true_and, and_true, ↓reduceIte]; (repeat (first | rw [if_pos (by omega)] | rw [if_neg (by omega)])); (try omega))) ?_
      refine a_iast eX10_arrives_181 sh_183 rfl (by omega) ?_
      refine a_iinc5 eX10_arrives_182 (by decide) aw_n2i ?_
      refine a_goto 149 eX10_arrives_185 (by decide) ?_
      refine AW.st (aw_si_sa σ 183 _ (18 * r + k) _) ?_
      refine AW.st (aw_sa_congr (g' := fun j => if 18 * r + (k + -1) < j ∧ j ≤ 18 * r + m 10 r then σ.1 183 (j - 1) else σ.1 183 j) (fun j => ?_)) (ih (k + -1) (by omega) (by omega))
      by_cases q1 : j = 18 * r + k
      · subst q1
        rw [if_pos rfl, if_pos (by omega)]
      · rw [if_neg q1]
        by_cases q2 : 18 * r + k < j ∧ j ≤ 18 * r + m 10 r
        · rw [if_pos q2, if_pos (by omega)]
        · rw [if_neg q2, if_neg (by omega)]

set_option maxHeartbeats 4000000 in
set_option maxRecDepth 100000 in
theorem lp_arrP0 {l : Launch} {σ : aw_S} {Post : Option Value → aw_S → Prop} {tw cs : Bool} (hR : σ.2.2 = RF tw cs) {N c r : Int} {m : mS} (hC : cityM σ m) (wC : wfCity m) (hM : dayM σ m) (w1 : wfD1 m N c) (hX : wfComer m N c r) (hN : 0 ≤ N ∧ N ≤ 1000) (hst : m (100 + c) 1 = 1) (hk : ∀ σ', dayM σ' (marr m c r) → frM σ σ' → Post none σ') (hby : ¬ (m (100 + c) 5 = r ∧ m 0 3 ≤ m (100 + c) 6)) (hms : mayst m r (m (100 + c) 0) (m 0 3 / 60 % 24) 0) (hroom : m 10 r < m 2 r + m 3 r)  : ∀ (n : Nat) (k : Int) (lx : Option Value), ((m 10 r - k).toNat ≤ n) → (0 ≤ k ∧ k ≤ m 10 r) → AW l yX10_arrives cX10_arrives 6 (none : Option Jvm.ClassFile.FieldType) 2 48 0 0 SH Post SH 0 0 (σ) 98 [some (.ref 171), some (.int (jI c)), some (.int (jI r)), some (.int (jI 0)), some (.int (jI k)), lx] [] := by
  intro n
  induction n with
  | zero =>
    intro k lx hm hkk
    obtain ⟨c1, c2, c3, c4, c5, c6, c7⟩ := id hC
    obtain ⟨y1, y2, y3, y4, y5, y6, y7, y8⟩ := id wC
    obtain ⟨d1, d2, d3, d4, d5, d6, d7⟩ := id hM
    obtain ⟨v1, v2, v3, v4, v5, v6, v7, v8⟩ := id w1
    obtain ⟨x1, ⟨x2, x2a, x2b⟩, x3, x4, x5, x6, x7, x8, x9⟩ := id hX
    simp only [Int.zero_add] at d4 d5 d6 d7
    have cr := c2 r (by omega) (by omega)
    have yr := y2 r (by omega) (by omega)
    have vr := v4 r (by omega) (by omega)
    have dr := d4 r (by omega) (by omega)
    have kc := d5 c (by omega) (by omega)
    unfold cabM at kc
    obtain ⟨k0, k9, k1, k2, k3, k4, k5, k6, k7, k8, k10⟩ := kc
    have k2 := (k2 (Or.inl hst)).trans x2
    have hlt : m 10 r < m 0 4 := pig_c x1 vr.1.1 (fun k k1 k2 => by have := v6 r k (by omega) (by omega) k1 k2; exact ⟨this.1, this.2.1⟩) (fun k j k1 k2 j1 j2 q => v7 r k j (by omega) (by omega) k1 k2 j1 j2 q)
    refine a_ild4 eX10_arrives_98 ?_
    refine a_ald0 eX10_arrives_100 ?_
    refine a_getR 25 184 eX10_arrives_101 fl_X10_48 rfl rfl sh_171 ((congrFun (congrFun hR _) _).trans rf_171_25) ?_
    refine a_ild2 eX10_arrives_104 ?_
    refine a_iald eX10_arrives_105 sh_184 rfl (by omega) ?_
    refine a_icmp_ge 141 eX10_arrives_106 (by decide) (by omega) (fun hT106 => ?_) (fun hF106 => ?_)
    · skip
      refine a_ald0 eX10_arrives_141 ?_
      refine a_getR 25 184 eX10_arrives_142 fl_X10_48 rfl rfl sh_171 ((congrFun (congrFun hR _) _).trans rf_171_25) ?_
      refine a_ild2 eX10_arrives_145 ?_
      refine a_iald eX10_arrives_146 sh_184 rfl (by omega) ?_
      refine a_ist5 eX10_arrives_147 (by decide) aw_n2i ?_
      have e9 : k = m 10 r := by omega
      rw [dr.1, e9]
      exact AW.st (aw_sa_self σ 183 (g := fun j => if 18 * r + m 10 r < j ∧ j ≤ 18 * r + m 10 r then σ.1 183 (j - 1) else σ.1 183 j) (fun j => if_neg (by omega))).symm (lp_arrS0 hR hC wC hM w1 hX hN hst hk hby hms hroom _ (m 10 r) (Nat.le_refl _) (by omega))
    · skip
      exfalso; omega
  | succ n ih =>
    intro k lx hm hkk
    obtain ⟨c1, c2, c3, c4, c5, c6, c7⟩ := id hC
    obtain ⟨y1, y2, y3, y4, y5, y6, y7, y8⟩ := id wC
    obtain ⟨d1, d2, d3, d4, d5, d6, d7⟩ := id hM
    obtain ⟨v1, v2, v3, v4, v5, v6, v7, v8⟩ := id w1
    obtain ⟨x1, ⟨x2, x2a, x2b⟩, x3, x4, x5, x6, x7, x8, x9⟩ := id hX
    simp only [Int.zero_add] at d4 d5 d6 d7
    have cr := c2 r (by omega) (by omega)
    have yr := y2 r (by omega) (by omega)
    have vr := v4 r (by omega) (by omega)
    have dr := d4 r (by omega) (by omega)
    have kc := d5 c (by omega) (by omega)
    unfold cabM at kc
    obtain ⟨k0, k9, k1, k2, k3, k4, k5, k6, k7, k8, k10⟩ := kc
    have k2 := (k2 (Or.inl hst)).trans x2
    have hlt : m 10 r < m 0 4 := pig_c x1 vr.1.1 (fun k k1 k2 => by have := v6 r k (by omega) (by omega) k1 k2; exact ⟨this.1, this.2.1⟩) (fun k j k1 k2 j1 j2 q => v7 r k j (by omega) (by omega) k1 k2 j1 j2 q)
    refine a_ild4 eX10_arrives_98 ?_
    refine a_ald0 eX10_arrives_100 ?_
    refine a_getR 25 184 eX10_arrives_101 fl_X10_48 rfl rfl sh_171 ((congrFun (congrFun hR _) _).trans rf_171_25) ?_
    refine a_ild2 eX10_arrives_104 ?_
    refine a_iald eX10_arrives_105 sh_184 rfl (by omega) ?_
    refine a_icmp_ge 141 eX10_arrives_106 (by decide) (by omega) (fun hT106 => ?_) (fun hF106 => ?_)
    · skip
      refine a_ald0 eX10_arrives_141 ?_
      refine a_getR 25 184 eX10_arrives_142 fl_X10_48 rfl rfl sh_171 ((congrFun (congrFun hR _) _).trans rf_171_25) ?_
      refine a_ild2 eX10_arrives_145 ?_
      refine a_iald eX10_arrives_146 sh_184 rfl (by omega) ?_
      refine a_ist5 eX10_arrives_147 (by decide) aw_n2i ?_
      have e9 : k = m 10 r := by omega
      rw [dr.1, e9]
      exact AW.st (aw_sa_self σ 183 (g := fun j => if 18 * r + m 10 r < j ∧ j ≤ 18 * r + m 10 r then σ.1 183 (j - 1) else σ.1 183 j) (fun j => if_neg (by omega))).symm (lp_arrS0 hR hC wC hM w1 hX hN hst hk hby hms hroom _ (m 10 r) (Nat.le_refl _) (by omega))
    · skip
      refine a_ild3 eX10_arrives_109 ?_
      refine a_if_eq 135 eX10_arrives_110 (by decide) (by omega) (fun _ => ?_) (fun h => absurd h (by decide))
      refine a_iinc4 eX10_arrives_135 (by decide) aw_n2i ?_
      refine a_goto 98 eX10_arrives_138 (by decide) ?_
      exact ih (k + 1) lx (by omega) (by omega)

set_option maxHeartbeats 4000000 in
set_option maxRecDepth 100000 in
theorem lp_arrS1 {l : Launch} {σ : aw_S} {Post : Option Value → aw_S → Prop} {tw cs : Bool} (hR : σ.2.2 = RF tw cs) {N c r : Int} {m : mS} (hC : cityM σ m) (wC : wfCity m) (hM : dayM σ m) (w1 : wfD1 m N c) (hX : wfComer m N c r) (hN : 0 ≤ N ∧ N ≤ 1000) (hst : m (100 + c) 1 = 1) (hk : ∀ σ', dayM σ' (marr m c r) → frM σ σ' → Post none σ') (hby : m (100 + c) 5 = r ∧ m 0 3 ≤ m (100 + c) 6) (hms : mayst m r (m (100 + c) 0) (m 0 3 / 60 % 24) 0) (hroom : m 10 r < m 2 r + m 3 r)  : ∀ (n : Nat) (k : Int), ((k - (btp m r)).toNat ≤ n) → ((btp m r) ≤ k ∧ k ≤ m 10 r) → AW l yX10_arrives cX10_arrives 6 (none : Option Jvm.ClassFile.FieldType) 2 48 0 0 SH Post SH 0 0 (aw_sa σ 183 (fun j => if 18 * r + k < j ∧ j ≤ 18 * r + m 10 r then σ.1 183 (j - 1) else σ.1 183 j)) 149 [some (.ref 171), some (.int (jI c)), some (.int (jI r)), some (.int (jI 1)), some (.int (jI (btp m r))), some (.int (jI k))] [] := by
  intro n
  induction n with
  | zero =>
    intro k hm hkk
    obtain ⟨c1, c2, c3, c4, c5, c6, c7⟩ := id hC
    obtain ⟨y1, y2, y3, y4, y5, y6, y7, y8⟩ := id wC
    obtain ⟨d1, d2, d3, d4, d5, d6, d7⟩ := id hM
    obtain ⟨v1, v2, v3, v4, v5, v6, v7, v8⟩ := id w1
    obtain ⟨x1, ⟨x2, x2a, x2b⟩, x3, x4, x5, x6, x7, x8, x9⟩ := id hX
    simp only [Int.zero_add] at d4 d5 d6 d7
    have cr := c2 r (by omega) (by omega)
    have yr := y2 r (by omega) (by omega)
    have vr := v4 r (by omega) (by omega)
    have dr := d4 r (by omega) (by omega)
    have kc := d5 c (by omega) (by omega)
    unfold cabM at kc
    obtain ⟨k0, k9, k1, k2, k3, k4, k5, k6, k7, k8, k10⟩ := kc
    have k2 := (k2 (Or.inl hst)).trans x2
    have hlt : m 10 r < m 0 4 := pig_c x1 vr.1.1 (fun k k1 k2 => by have := v6 r k (by omega) (by omega) k1 k2; exact ⟨this.1, this.2.1⟩) (fun k j k1 k2 j1 j2 q => v7 r k j (by omega) (by omega) k1 k2 j1 j2 q)
    have hbt := btp_ex (m := m) (r := r) vr.1.1
    have hb1 := hbt.1
    refine a_ild5 eX10_arrives_149 ?_
    refine a_ild4 eX10_arrives_151 ?_
    refine a_icmp_le 188 eX10_arrives_153 (by decide) (by omega) (fun hT153 => ?_) (fun hF153 => ?_)
    · skip
      refine a_ald0 eX10_arrives_188 ?_
      refine a_getR 24 183 eX10_arrives_189 fl_X10_45 rfl rfl sh_171 ((congrFun (congrFun hR _) _).trans rf_171_24) ?_
      refine a_bipush eX10_arrives_192 (by decide) ?_
      refine a_ild2 eX10_arrives_194 ?_
      refine a_imul eX10_arrives_195 ?_
      refine a_ild4 eX10_arrives_196 ?_
      refine a_iadd eX10_arrives_198 ?_
      refine a_ild1 eX10_arrives_199 ?_
      refine a_iast eX10_arrives_200 sh_183 rfl (by omega) ?_
      refine a_ald0 eX10_arrives_201 ?_
      refine a_getR 25 184 eX10_arrives_202 fl_X10_48 rfl rfl sh_171 ((congrFun (congrFun hR _) _).trans rf_171_25) ?_
      refine a_ild2 eX10_arrives_205 ?_
      refine a_dup2 eX10_arrives_206 rfl rfl ?_
      refine a_iald eX10_arrives_207 sh_184 rfl (by omega) ?_
      refine a_eqtop (y0 := m 10 r) (by (simp only [rd_si, rd_sa, and_self, true_and, and_true, ↓reduceIte]; (repeat (first | rw [if_pos (by omega)] | rw [if_neg (by omega)])); (try omega))) ?_
      refine a_iconst eX10_arrives_208 ?_
      refine a_iadd eX10_arrives_209 ?_
      refine a_iast eX10_arrives_210 sh_184 rfl (by omega) ?_
      refine a_ald0 eX10_arrives_211 ?_
      refine a_ild1 eX10_arrives_212 ?_
      refine a_iconst eX10_arrives_213 ?_
      refine a_iconst eX10_arrives_214 ?_
      refine a_cV3 eX10_arrives_215 lk_X10_269 mV_X10_sets sh_171 ⟨_, rfl, rfl⟩ mt_X10_sets rfl rfl rfl rfl rfl rfl rfl (c_X10_sets hR (by omega) ?_)
      dsimp only [Option.toList, List.cons_append, List.nil_append]
      refine a_ald0 eX10_arrives_218 ?_
      refine a_ild1 eX10_arrives_219 ?_
      refine a_bipush eX10_arrives_220 (by decide) ?_
      refine a_ild3 eX10_arrives_222 ?_
      refine a_if_eq 230 eX10_arrives_223 (by decide) (by omega) (fun h => absurd h (by decide)) (fun _ => ?_)
      refine a_iconst eX10_arrives_226 ?_
      refine a_goto 231 eX10_arrives_227 (by decide) ?_
      refine a_cV3 eX10_arrives_231 lk_X10_269 mV_X10_sets sh_171 ⟨_, rfl, rfl⟩ mt_X10_sets rfl rfl rfl rfl rfl rfl rfl (c_X10_sets hR (by omega) ?_)
      dsimp only [Option.toList, List.cons_append, List.nil_append]
      refine a_ild3 eX10_arrives_234 ?_
      refine a_if_ne 239 eX10_arrives_235 (by decide) (by omega) (fun _ => ?_) (fun h => absurd h (by decide))
      refine a_ald0 eX10_arrives_239 ?_
      refine a_ild1 eX10_arrives_240 ?_
      refine a_iconst eX10_arrives_241 ?_
      refine a_iconst eX10_arrives_242 ?_
      refine a_cV3 eX10_arrives_243 lk_X10_269 mV_X10_sets sh_171 ⟨_, rfl, rfl⟩ mt_X10_sets rfl rfl rfl rfl rfl rfl rfl (c_X10_sets hR (by omega) ?_)
      dsimp only [Option.toList, List.cons_append, List.nil_append]
      refine a_ald0 eX10_arrives_246 ?_
      refine a_ild1 eX10_arrives_247 ?_
      refine a_iconst eX10_arrives_248 ?_
      refine a_iconst eX10_arrives_249 ?_
      refine a_cV3 eX10_arrives_250 lk_X10_269 mV_X10_sets sh_171 ⟨_, rfl, rfl⟩ mt_X10_sets rfl rfl rfl rfl rfl rfl rfl (c_X10_sets hR (by omega) ?_)
      dsimp only [Option.toList, List.cons_append, List.nil_append]
      refine AW.gen (fun σ3 hσ3 => ?_)
      have h3o : ∀ (a : Nat) (j : Int), a ≠ 182 → a ≠ 183 → ¬ (a = 184 ∧ j = r) → σ3.1 a j = σ.1 a j := fun a j q1 q2 q3 => by rw [hσ3]; simp only [rd_si, rd_sa]; (repeat rw [if_neg (by omega)])
      have h3s : σ3.1 184 r = m 10 r + 1 := by rw [hσ3]; (simp only [rd_si, rd_sa, and_self, true_and, and_true, ↓reduceIte]; (repeat (first | rw [if_pos (by omega)] | rw [if_neg (by omega)])); (try omega))
      have h3w : ∀ j : Int, σ3.1 183 j = if j = 18 * r + (btp m r) then c else if 18 * r + (btp m r) < j ∧ j ≤ 18 * r + m 10 r then σ.1 183 (j - 1) else σ.1 183 j := fun j => by
        rw [hσ3]
        simp only [rd_si, rd_sa, true_and, ↓reduceIte]
        rw [show k = (btp m r) by omega]
        simp
      have h3f : ∀ j : Int, σ3.1 182 j = if j = 11 * c + 5 then -1 else if j = 11 * c + 4 then -1 else if j = 11 * c + 10 then 1 else if j = 11 * c then 2 else σ.1 182 j := fun j => by
        rw [hσ3]
        simp only [rd_si, rd_sa, true_and, Int.add_zero]
        simp
      have hR : σ3.2.2 = RF tw cs := by rw [hσ3]; exact hR
      have fr3 : frM σ σ3 := ⟨fun a j h h9 => h3o a j (by omega) (by omega) (by omega), by rw [hσ3]; rfl⟩
      have hrow : dayM (aw_sa σ3 182 (σ.1 182)) (mrow m r (btp m r) c) := by
        refine dayM_row (by omega) (by omega) (fun x q1 q2 => by have := v4 x q1 q2; omega) (by omega) (rowD_ins x2a) hM (fun a j q1 q2 => ?_) ?_ (fun j j1 j2 => ?_)
        · by_cases q : a = 182
          · rw [q, rd_sa_eq]
          · rw [rd_sa_ne q]
            by_cases q3 : a = 183
            · subst q3
              rw [h3w, if_neg (by omega), if_neg (by omega)]
            · exact h3o a j q q3 q2
        · rw [rd_sa_ne (by omega), h3s]
        · rw [rd_sa_ne (by omega), h3w]
          by_cases q1 : j < (btp m r)
          · rw [if_neg (by omega), if_neg (by omega), if_pos q1]; exact d6 r j (by omega) (by omega) j1 (by omega)
          · rw [if_neg q1]
            by_cases q2 : j = (btp m r)
            · rw [if_pos (by omega), if_pos q2]
            · rw [if_neg (by omega), if_pos (by omega), if_neg q2, show (18 * r + j - 1 : Int) = 18 * r + (j - 1) by omega]; exact d6 r (j - 1) (by omega) (by omega) (by omega) (by omega)
      have hD3 : dayM σ3 (upr (mrow m r (btp m r) c) (100 + c) (xst m c r 1)) := by
        have e4 : mrow m r (btp m r) c 0 4 = m 0 4 := mrow_ne (by omega) (by omega)
        refine dayM_cab (by rw [e4]; exact x1) (by rw [e4]; omega) hrow (fun a j q => ?_) ?_
        · by_cases z : a = 182
          · subst z
            rw [rd_sa_eq, h3f]
            (repeat rw [if_neg (by omega)])
          · rw [rd_sa_ne z]
        · unfold cabM
          simp only [h3f]
          simp only [xst]
          refine ⟨?_, ?_, ?_, ?_, ?_, ?_, ?_, ?_, ?_, ?_, ?_⟩
          · (repeat (first | rw [if_pos (by omega)] | rw [if_neg (by omega)])); (try rfl)
          · (repeat (first | rw [if_pos (by omega)] | rw [if_neg (by omega)])); exact k9
          · intro q; simp at q
          · intro _; (repeat (first | rw [if_pos (by omega)] | rw [if_neg (by omega)])); exact k2
          · intro q; simp at q
          · (repeat (first | rw [if_pos (by omega)] | rw [if_neg (by omega)] | rw [if_pos True.intro])); (first | done | exact k4 | simp)
          · (repeat (first | rw [if_pos (by omega)] | rw [if_neg (by omega)] | rw [if_pos True.intro])); (first | done | exact k5 | simp)
          · (repeat (first | rw [if_pos (by omega)] | rw [if_neg (by omega)])); exact k6
          · (repeat (first | rw [if_pos (by omega)] | rw [if_neg (by omega)])); exact k7
          · (repeat (first | rw [if_pos (by omega)] | rw [if_neg (by omega)])); exact k8
          · (repeat (first | rw [if_pos (by omega)] | rw [if_neg (by omega)])); (try rfl)
      refine a_ald0 eX10_arrives_253 ?_
      refine a_ild1 eX10_arrives_254 ?_
      refine a_ild2 eX10_arrives_255 ?_
      refine a_iconst eX10_arrives_256 ?_
      refine a_ald0 eX10_arrives_257 ?_
      refine a_getR 25 184 eX10_arrives_258 fl_X10_48 rfl rfl sh_171 ((congrFun (congrFun hR _) _).trans rf_171_25) ?_
      refine a_ild2 eX10_arrives_261 ?_
      refine a_iald eX10_arrives_262 sh_184 rfl (by omega) ?_
      refine a_eqtop (y0 := m 10 r + 1) (by exact h3s) ?_
      refine a_iconst eX10_arrives_263 ?_
      refine a_isub eX10_arrives_264 ?_
      refine a_ild4 eX10_arrives_265 ?_
      refine a_isub eX10_arrives_267 ?_
      refine a_cV4 eX10_arrives_268 lk_X10_289 mV_X10_passed sh_171 ⟨_, rfl, rfl⟩ mt_X10_passed rfl rfl rfl rfl rfl rfl rfl rfl (c_X10_passed hR hD3 (wfCity_fr (frm_tr (rowD_frm (by omega) (rowD_ins x2a)) (frm_upr (by omega))) wC) (wf_ins x1 w1 (by omega) hbt.1 hroom (wfCab_xst wC hN.1 hX (Or.inr rfl)) rfl rfl) hN (by have := hbt.1; omega) (by have := hbt.1; omega) (fun σ4 hD4 fr4 => ?_))
      dsimp only [Option.toList, List.cons_append, List.nil_append]
      refine a_vret eX10_arrives_271 rfl rfl ⟨Nat.zero_le _, Nat.zero_le _⟩ ?_
      refine hk σ4 ?_ (frM_tr fr3 fr4)
      rw [show marr m c r = mtell (upr (mrow m r (btp m r) c) (100 + c) (xst m c r 1)) c r 1 (m 10 r - btp m r) from (if_pos ⟨hms, hroom⟩).trans (if_pos hby)]
      rw [show (m 10 r - btp m r : Int) = m 10 r + 1 - 1 - btp m r by omega]
      exact hD4
    · skip
      exfalso; omega
  | succ n ih =>
    intro k hm hkk
    obtain ⟨c1, c2, c3, c4, c5, c6, c7⟩ := id hC
    obtain ⟨y1, y2, y3, y4, y5, y6, y7, y8⟩ := id wC
    obtain ⟨d1, d2, d3, d4, d5, d6, d7⟩ := id hM
    obtain ⟨v1, v2, v3, v4, v5, v6, v7, v8⟩ := id w1
    obtain ⟨x1, ⟨x2, x2a, x2b⟩, x3, x4, x5, x6, x7, x8, x9⟩ := id hX
    simp only [Int.zero_add] at d4 d5 d6 d7
    have cr := c2 r (by omega) (by omega)
    have yr := y2 r (by omega) (by omega)
    have vr := v4 r (by omega) (by omega)
    have dr := d4 r (by omega) (by omega)
    have kc := d5 c (by omega) (by omega)
    unfold cabM at kc
    obtain ⟨k0, k9, k1, k2, k3, k4, k5, k6, k7, k8, k10⟩ := kc
    have k2 := (k2 (Or.inl hst)).trans x2
    have hlt : m 10 r < m 0 4 := pig_c x1 vr.1.1 (fun k k1 k2 => by have := v6 r k (by omega) (by omega) k1 k2; exact ⟨this.1, this.2.1⟩) (fun k j k1 k2 j1 j2 q => v7 r k j (by omega) (by omega) k1 k2 j1 j2 q)
    have hbt := btp_ex (m := m) (r := r) vr.1.1
    have hb1 := hbt.1
    refine a_ild5 eX10_arrives_149 ?_
    refine a_ild4 eX10_arrives_151 ?_
    refine a_icmp_le 188 eX10_arrives_153 (by decide) (by omega) (fun hT153 => ?_) (fun hF153 => ?_)
    · skip
      refine a_ald0 eX10_arrives_188 ?_
      refine a_getR 24 183 eX10_arrives_189 fl_X10_45 rfl rfl sh_171 ((congrFun (congrFun hR _) _).trans rf_171_24) ?_
      refine a_bipush eX10_arrives_192 (by decide) ?_
      refine a_ild2 eX10_arrives_194 ?_
      refine a_imul eX10_arrives_195 ?_
      refine a_ild4 eX10_arrives_196 ?_
      refine a_iadd eX10_arrives_198 ?_
      refine a_ild1 eX10_arrives_199 ?_
      refine a_iast eX10_arrives_200 sh_183 rfl (by omega) ?_
      refine a_ald0 eX10_arrives_201 ?_
      refine a_getR 25 184 eX10_arrives_202 fl_X10_48 rfl rfl sh_171 ((congrFun (congrFun hR _) _).trans rf_171_25) ?_
      refine a_ild2 eX10_arrives_205 ?_
      refine a_dup2 eX10_arrives_206 rfl rfl ?_
      refine a_iald eX10_arrives_207 sh_184 rfl (by omega) ?_
      refine a_eqtop (y0 := m 10 r) (by (simp only [rd_si, rd_sa, and_self, true_and, and_true, ↓reduceIte]; (repeat (first | rw [if_pos (by omega)] | rw [if_neg (by omega)])); (try omega))) ?_
      refine a_iconst eX10_arrives_208 ?_
      refine a_iadd eX10_arrives_209 ?_
      refine a_iast eX10_arrives_210 sh_184 rfl (by omega) ?_
      refine a_ald0 eX10_arrives_211 ?_
      refine a_ild1 eX10_arrives_212 ?_
      refine a_iconst eX10_arrives_213 ?_
      refine a_iconst eX10_arrives_214 ?_
      refine a_cV3 eX10_arrives_215 lk_X10_269 mV_X10_sets sh_171 ⟨_, rfl, rfl⟩ mt_X10_sets rfl rfl rfl rfl rfl rfl rfl (c_X10_sets hR (by omega) ?_)
      dsimp only [Option.toList, List.cons_append, List.nil_append]
      refine a_ald0 eX10_arrives_218 ?_
      refine a_ild1 eX10_arrives_219 ?_
      refine a_bipush eX10_arrives_220 (by decide) ?_
      refine a_ild3 eX10_arrives_222 ?_
      refine a_if_eq 230 eX10_arrives_223 (by decide) (by omega) (fun h => absurd h (by decide)) (fun _ => ?_)
      refine a_iconst eX10_arrives_226 ?_
      refine a_goto 231 eX10_arrives_227 (by decide) ?_
      refine a_cV3 eX10_arrives_231 lk_X10_269 mV_X10_sets sh_171 ⟨_, rfl, rfl⟩ mt_X10_sets rfl rfl rfl rfl rfl rfl rfl (c_X10_sets hR (by omega) ?_)
      dsimp only [Option.toList, List.cons_append, List.nil_append]
      refine a_ild3 eX10_arrives_234 ?_
      refine a_if_ne 239 eX10_arrives_235 (by decide) (by omega) (fun _ => ?_) (fun h => absurd h (by decide))
      refine a_ald0 eX10_arrives_239 ?_
      refine a_ild1 eX10_arrives_240 ?_
      refine a_iconst eX10_arrives_241 ?_
      refine a_iconst eX10_arrives_242 ?_
      refine a_cV3 eX10_arrives_243 lk_X10_269 mV_X10_sets sh_171 ⟨_, rfl, rfl⟩ mt_X10_sets rfl rfl rfl rfl rfl rfl rfl (c_X10_sets hR (by omega) ?_)
      dsimp only [Option.toList, List.cons_append, List.nil_append]
      refine a_ald0 eX10_arrives_246 ?_
      refine a_ild1 eX10_arrives_247 ?_
      refine a_iconst eX10_arrives_248 ?_
      refine a_iconst eX10_arrives_249 ?_
      refine a_cV3 eX10_arrives_250 lk_X10_269 mV_X10_sets sh_171 ⟨_, rfl, rfl⟩ mt_X10_sets rfl rfl rfl rfl rfl rfl rfl (c_X10_sets hR (by omega) ?_)
      dsimp only [Option.toList, List.cons_append, List.nil_append]
      refine AW.gen (fun σ3 hσ3 => ?_)
      have h3o : ∀ (a : Nat) (j : Int), a ≠ 182 → a ≠ 183 → ¬ (a = 184 ∧ j = r) → σ3.1 a j = σ.1 a j := fun a j q1 q2 q3 => by rw [hσ3]; simp only [rd_si, rd_sa]; (repeat rw [if_neg (by omega)])
      have h3s : σ3.1 184 r = m 10 r + 1 := by rw [hσ3]; (simp only [rd_si, rd_sa, and_self, true_and, and_true, ↓reduceIte]; (repeat (first | rw [if_pos (by omega)] | rw [if_neg (by omega)])); (try omega))
      have h3w : ∀ j : Int, σ3.1 183 j = if j = 18 * r + (btp m r) then c else if 18 * r + (btp m r) < j ∧ j ≤ 18 * r + m 10 r then σ.1 183 (j - 1) else σ.1 183 j := fun j => by
        rw [hσ3]
        simp only [rd_si, rd_sa, true_and, ↓reduceIte]
        rw [show k = (btp m r) by omega]
        simp
      have h3f : ∀ j : Int, σ3.1 182 j = if j = 11 * c + 5 then -1 else if j = 11 * c + 4 then -1 else if j = 11 * c + 10 then 1 else if j = 11 * c then 2 else σ.1 182 j := fun j => by
        rw [hσ3]
        simp only [rd_si, rd_sa, true_and, Int.add_zero]
        simp
      have hR : σ3.2.2 = RF tw cs := by rw [hσ3]; exact hR
      have fr3 : frM σ σ3 := ⟨fun a j h h9 => h3o a j (by omega) (by omega) (by omega), by rw [hσ3]; rfl⟩
      have hrow : dayM (aw_sa σ3 182 (σ.1 182)) (mrow m r (btp m r) c) := by
        refine dayM_row (by omega) (by omega) (fun x q1 q2 => by have := v4 x q1 q2; omega) (by omega) (rowD_ins x2a) hM (fun a j q1 q2 => ?_) ?_ (fun j j1 j2 => ?_)
        · by_cases q : a = 182
          · rw [q, rd_sa_eq]
          · rw [rd_sa_ne q]
            by_cases q3 : a = 183
            · subst q3
              rw [h3w, if_neg (by omega), if_neg (by omega)]
            · exact h3o a j q q3 q2
        · rw [rd_sa_ne (by omega), h3s]
        · rw [rd_sa_ne (by omega), h3w]
          by_cases q1 : j < (btp m r)
          · rw [if_neg (by omega), if_neg (by omega), if_pos q1]; exact d6 r j (by omega) (by omega) j1 (by omega)
          · rw [if_neg q1]
            by_cases q2 : j = (btp m r)
            · rw [if_pos (by omega), if_pos q2]
            · rw [if_neg (by omega), if_pos (by omega), if_neg q2, show (18 * r + j - 1 : Int) = 18 * r + (j - 1) by omega]; exact d6 r (j - 1) (by omega) (by omega) (by omega) (by omega)
      have hD3 : dayM σ3 (upr (mrow m r (btp m r) c) (100 + c) (xst m c r 1)) := by
        have e4 : mrow m r (btp m r) c 0 4 = m 0 4 := mrow_ne (by omega) (by omega)
        refine dayM_cab (by rw [e4]; exact x1) (by rw [e4]; omega) hrow (fun a j q => ?_) ?_
        · by_cases z : a = 182
          · subst z
            rw [rd_sa_eq, h3f]
            (repeat rw [if_neg (by omega)])
          · rw [rd_sa_ne z]
        · unfold cabM
          simp only [h3f]
          simp only [xst]
          refine ⟨?_, ?_, ?_, ?_, ?_, ?_, ?_, ?_, ?_, ?_, ?_⟩
          · (repeat (first | rw [if_pos (by omega)] | rw [if_neg (by omega)])); (try rfl)
          · (repeat (first | rw [if_pos (by omega)] | rw [if_neg (by omega)])); exact k9
          · intro q; simp at q
          · intro _; (repeat (first | rw [if_pos (by omega)] | rw [if_neg (by omega)])); exact k2
          · intro q; simp at q
          · (repeat (first | rw [if_pos (by omega)] | rw [if_neg (by omega)] | rw [if_pos True.intro])); (first | done | exact k4 | simp)
          · (repeat (first | rw [if_pos (by omega)] | rw [if_neg (by omega)] | rw [if_pos True.intro])); (first | done | exact k5 | simp)
          · (repeat (first | rw [if_pos (by omega)] | rw [if_neg (by omega)])); exact k6
          · (repeat (first | rw [if_pos (by omega)] | rw [if_neg (by omega)])); exact k7
          · (repeat (first | rw [if_pos (by omega)] | rw [if_neg (by omega)])); exact k8
          · (repeat (first | rw [if_pos (by omega)] | rw [if_neg (by omega)])); (try rfl)
      refine a_ald0 eX10_arrives_253 ?_
      refine a_ild1 eX10_arrives_254 ?_
      refine a_ild2 eX10_arrives_255 ?_
      refine a_iconst eX10_arrives_256 ?_
      refine a_ald0 eX10_arrives_257 ?_
      refine a_getR 25 184 eX10_arrives_258 fl_X10_48 rfl rfl sh_171 ((congrFun (congrFun hR _) _).trans rf_171_25) ?_
      refine a_ild2 eX10_arrives_261 ?_
      refine a_iald eX10_arrives_262 sh_184 rfl (by omega) ?_
      refine a_eqtop (y0 := m 10 r + 1) (by exact h3s) ?_
      refine a_iconst eX10_arrives_263 ?_
      refine a_isub eX10_arrives_264 ?_
      refine a_ild4 eX10_arrives_265 ?_
      refine a_isub eX10_arrives_267 ?_
      refine a_cV4 eX10_arrives_268 lk_X10_289 mV_X10_passed sh_171 ⟨_, rfl, rfl⟩ mt_X10_passed rfl rfl rfl rfl rfl rfl rfl rfl (c_X10_passed hR hD3 (wfCity_fr (frm_tr (rowD_frm (by omega) (rowD_ins x2a)) (frm_upr (by omega))) wC) (wf_ins x1 w1 (by omega) hbt.1 hroom (wfCab_xst wC hN.1 hX (Or.inr rfl)) rfl rfl) hN (by have := hbt.1; omega) (by have := hbt.1; omega) (fun σ4 hD4 fr4 => ?_))
      dsimp only [Option.toList, List.cons_append, List.nil_append]
      refine a_vret eX10_arrives_271 rfl rfl ⟨Nat.zero_le _, Nat.zero_le _⟩ ?_
      refine hk σ4 ?_ (frM_tr fr3 fr4)
      rw [show marr m c r = mtell (upr (mrow m r (btp m r) c) (100 + c) (xst m c r 1)) c r 1 (m 10 r - btp m r) from (if_pos ⟨hms, hroom⟩).trans (if_pos hby)]
      rw [show (m 10 r - btp m r : Int) = m 10 r + 1 - 1 - btp m r by omega]
      exact hD4
    · skip
      refine a_ald0 eX10_arrives_156 ?_
      refine a_getR 24 183 eX10_arrives_157 fl_X10_45 rfl rfl sh_171 ((congrFun (congrFun hR _) _).trans rf_171_24) ?_
      refine a_bipush eX10_arrives_160 (by decide) ?_
      refine a_ild2 eX10_arrives_162 ?_
      refine a_imul eX10_arrives_163 ?_
      refine a_ild5 eX10_arrives_164 ?_
      refine a_iadd eX10_arrives_166 ?_
      refine a_ald0 eX10_arrives_167 ?_
      refine a_getR 24 183 eX10_arrives_168 fl_X10_45 rfl rfl sh_171 ((congrFun (congrFun hR _) _).trans rf_171_24) ?_
      refine a_bipush eX10_arrives_171 (by decide) ?_
      refine a_ild2 eX10_arrives_173 ?_
      refine a_imul eX10_arrives_174 ?_
      refine a_ild5 eX10_arrives_175 ?_
      refine a_iadd eX10_arrives_177 ?_
      refine a_iconst eX10_arrives_178 ?_
      refine a_isub eX10_arrives_179 ?_
      refine a_iald eX10_arrives_180 sh_183 rfl (by omega) ?_
      refine a_eqtop (y0 := σ.1 183 (18 * r + k - 1)) (by (simp only [rd_si, rd_sa, and_self, true_and, and_true, ↓reduceIte]; (repeat (first | rw [if_pos (by omega)] | rw [if_neg (by omega)])); (try omega))) ?_
      refine a_iast eX10_arrives_181 sh_183 rfl (by omega) ?_
      refine a_iinc5 eX10_arrives_182 (by decide) aw_n2i ?_
      refine a_goto 149 eX10_arrives_185 (by decide) ?_
      refine AW.st (aw_si_sa σ 183 _ (18 * r + k) _) ?_
      refine AW.st (aw_sa_congr (g' := fun j => if 18 * r + (k + -1) < j ∧ j ≤ 18 * r + m 10 r then σ.1 183 (j - 1) else σ.1 183 j) (fun j => ?_)) (ih (k + -1) (by omega) (by omega))
      by_cases q1 : j = 18 * r + k
      · subst q1
        rw [if_pos rfl, if_pos (by omega)]
      · rw [if_neg q1]
        by_cases q2 : 18 * r + k < j ∧ j ≤ 18 * r + m 10 r
        · rw [if_pos q2, if_pos (by omega)]
        · rw [if_neg q2, if_neg (by omega)]

set_option maxHeartbeats 4000000 in
set_option maxRecDepth 100000 in
theorem lp_arrP1 {l : Launch} {σ : aw_S} {Post : Option Value → aw_S → Prop} {tw cs : Bool} (hR : σ.2.2 = RF tw cs) {N c r : Int} {m : mS} (hC : cityM σ m) (wC : wfCity m) (hM : dayM σ m) (w1 : wfD1 m N c) (hX : wfComer m N c r) (hN : 0 ≤ N ∧ N ≤ 1000) (hst : m (100 + c) 1 = 1) (hk : ∀ σ', dayM σ' (marr m c r) → frM σ σ' → Post none σ') (hby : m (100 + c) 5 = r ∧ m 0 3 ≤ m (100 + c) 6) (hms : mayst m r (m (100 + c) 0) (m 0 3 / 60 % 24) 0) (hroom : m 10 r < m 2 r + m 3 r)  : ∀ (n : Nat) (k : Int) (lx : Option Value), ((m 10 r - k).toNat ≤ n) → (0 ≤ k ∧ k ≤ m 10 r) → (∀ j : Int, 0 ≤ j → j < k → m (100 + m (200 + r) j) 10 = 1) → AW l yX10_arrives cX10_arrives 6 (none : Option Jvm.ClassFile.FieldType) 2 48 0 0 SH Post SH 0 0 (σ) 98 [some (.ref 171), some (.int (jI c)), some (.int (jI r)), some (.int (jI 1)), some (.int (jI k)), lx] [] := by
  intro n
  induction n with
  | zero =>
    intro k lx hm hkk hf
    obtain ⟨c1, c2, c3, c4, c5, c6, c7⟩ := id hC
    obtain ⟨y1, y2, y3, y4, y5, y6, y7, y8⟩ := id wC
    obtain ⟨d1, d2, d3, d4, d5, d6, d7⟩ := id hM
    obtain ⟨v1, v2, v3, v4, v5, v6, v7, v8⟩ := id w1
    obtain ⟨x1, ⟨x2, x2a, x2b⟩, x3, x4, x5, x6, x7, x8, x9⟩ := id hX
    simp only [Int.zero_add] at d4 d5 d6 d7
    have cr := c2 r (by omega) (by omega)
    have yr := y2 r (by omega) (by omega)
    have vr := v4 r (by omega) (by omega)
    have dr := d4 r (by omega) (by omega)
    have kc := d5 c (by omega) (by omega)
    unfold cabM at kc
    obtain ⟨k0, k9, k1, k2, k3, k4, k5, k6, k7, k8, k10⟩ := kc
    have k2 := (k2 (Or.inl hst)).trans x2
    have hlt : m 10 r < m 0 4 := pig_c x1 vr.1.1 (fun k k1 k2 => by have := v6 r k (by omega) (by omega) k1 k2; exact ⟨this.1, this.2.1⟩) (fun k j k1 k2 j1 j2 q => v7 r k j (by omega) (by omega) k1 k2 j1 j2 q)
    have hbt := btp_ex (m := m) (r := r) vr.1.1
    have hb1 := hbt.1
    refine a_ild4 eX10_arrives_98 ?_
    refine a_ald0 eX10_arrives_100 ?_
    refine a_getR 25 184 eX10_arrives_101 fl_X10_48 rfl rfl sh_171 ((congrFun (congrFun hR _) _).trans rf_171_25) ?_
    refine a_ild2 eX10_arrives_104 ?_
    refine a_iald eX10_arrives_105 sh_184 rfl (by omega) ?_
    refine a_icmp_ge 141 eX10_arrives_106 (by decide) (by omega) (fun hT106 => ?_) (fun hF106 => ?_)
    · skip
      refine a_ald0 eX10_arrives_141 ?_
      refine a_getR 25 184 eX10_arrives_142 fl_X10_48 rfl rfl sh_171 ((congrFun (congrFun hR _) _).trans rf_171_25) ?_
      refine a_ild2 eX10_arrives_145 ?_
      refine a_iald eX10_arrives_146 sh_184 rfl (by omega) ?_
      refine a_ist5 eX10_arrives_147 (by decide) aw_n2i ?_
      have e9 : k = btp m r := btp_eq ⟨hkk, hf, by first | exact Or.inl (by omega) | exact Or.inr (by omega)⟩
      rw [dr.1, e9]
      exact AW.st (aw_sa_self σ 183 (g := fun j => if 18 * r + m 10 r < j ∧ j ≤ 18 * r + m 10 r then σ.1 183 (j - 1) else σ.1 183 j) (fun j => if_neg (by omega))).symm (lp_arrS1 hR hC wC hM w1 hX hN hst hk hby hms hroom _ (m 10 r) (Nat.le_refl _) (by omega))
    · skip
      exfalso; omega
  | succ n ih =>
    intro k lx hm hkk hf
    obtain ⟨c1, c2, c3, c4, c5, c6, c7⟩ := id hC
    obtain ⟨y1, y2, y3, y4, y5, y6, y7, y8⟩ := id wC
    obtain ⟨d1, d2, d3, d4, d5, d6, d7⟩ := id hM
    obtain ⟨v1, v2, v3, v4, v5, v6, v7, v8⟩ := id w1
    obtain ⟨x1, ⟨x2, x2a, x2b⟩, x3, x4, x5, x6, x7, x8, x9⟩ := id hX
    simp only [Int.zero_add] at d4 d5 d6 d7
    have cr := c2 r (by omega) (by omega)
    have yr := y2 r (by omega) (by omega)
    have vr := v4 r (by omega) (by omega)
    have dr := d4 r (by omega) (by omega)
    have kc := d5 c (by omega) (by omega)
    unfold cabM at kc
    obtain ⟨k0, k9, k1, k2, k3, k4, k5, k6, k7, k8, k10⟩ := kc
    have k2 := (k2 (Or.inl hst)).trans x2
    have hlt : m 10 r < m 0 4 := pig_c x1 vr.1.1 (fun k k1 k2 => by have := v6 r k (by omega) (by omega) k1 k2; exact ⟨this.1, this.2.1⟩) (fun k j k1 k2 j1 j2 q => v7 r k j (by omega) (by omega) k1 k2 j1 j2 q)
    have hbt := btp_ex (m := m) (r := r) vr.1.1
    have hb1 := hbt.1
    refine a_ild4 eX10_arrives_98 ?_
    refine a_ald0 eX10_arrives_100 ?_
    refine a_getR 25 184 eX10_arrives_101 fl_X10_48 rfl rfl sh_171 ((congrFun (congrFun hR _) _).trans rf_171_25) ?_
    refine a_ild2 eX10_arrives_104 ?_
    refine a_iald eX10_arrives_105 sh_184 rfl (by omega) ?_
    refine a_icmp_ge 141 eX10_arrives_106 (by decide) (by omega) (fun hT106 => ?_) (fun hF106 => ?_)
    · skip
      refine a_ald0 eX10_arrives_141 ?_
      refine a_getR 25 184 eX10_arrives_142 fl_X10_48 rfl rfl sh_171 ((congrFun (congrFun hR _) _).trans rf_171_25) ?_
      refine a_ild2 eX10_arrives_145 ?_
      refine a_iald eX10_arrives_146 sh_184 rfl (by omega) ?_
      refine a_ist5 eX10_arrives_147 (by decide) aw_n2i ?_
      have e9 : k = btp m r := btp_eq ⟨hkk, hf, by first | exact Or.inl (by omega) | exact Or.inr (by omega)⟩
      rw [dr.1, e9]
      exact AW.st (aw_sa_self σ 183 (g := fun j => if 18 * r + m 10 r < j ∧ j ≤ 18 * r + m 10 r then σ.1 183 (j - 1) else σ.1 183 j) (fun j => if_neg (by omega))).symm (lp_arrS1 hR hC wC hM w1 hX hN hst hk hby hms hroom _ (m 10 r) (Nat.le_refl _) (by omega))
    · skip
      refine a_ild3 eX10_arrives_109 ?_
      refine a_if_eq 135 eX10_arrives_110 (by decide) (by omega) (fun h => absurd h (by decide)) (fun _ => ?_)
      have h6 := v6 r k (by omega) (by omega) (by omega) (by omega)
      have e6 := d6 r k (by omega) (by omega) (by omega) (by omega)
      have h5 := v5 _ h6.1.1 h6.1.2 h6.2.1
      unfold wfCab at h5
      have e10 := (d5 _ h6.1.1 h6.1.2).2.2.2.2.2.2.2.2.2.2
      have b10 := h5.2.2.2.2.2.2.2.2.2.2.2.2.2
      refine a_ald0 eX10_arrives_113 ?_
      refine a_ald0 eX10_arrives_114 ?_
      refine a_getR 24 183 eX10_arrives_115 fl_X10_45 rfl rfl sh_171 ((congrFun (congrFun hR _) _).trans rf_171_24) ?_
      refine a_bipush eX10_arrives_118 (by decide) ?_
      refine a_ild2 eX10_arrives_120 ?_
      refine a_imul eX10_arrives_121 ?_
      refine a_ild4 eX10_arrives_122 ?_
      refine a_iadd eX10_arrives_124 ?_
      refine a_iald eX10_arrives_125 sh_183 rfl (by omega) ?_
      refine a_eqtop (y0 := m (200 + r) k) (by exact e6) ?_
      refine a_bipush eX10_arrives_126 (by decide) ?_
      refine a_cV2 eX10_arrives_128 lk_X10_276 mV_X10_of0 sh_171 ⟨_, rfl, rfl⟩ mt_X10_of0 rfl rfl rfl rfl rfl rfl (c_X10_of0 hR (by omega) ?_)
      dsimp only [Option.toList, List.cons_append, List.nil_append]
      refine a_eqtop (y0 := m (100 + m (200 + r) k) 10) (by exact e10) ?_
      refine a_iconst eX10_arrives_131 ?_
      refine a_icmp_ne 141 eX10_arrives_132 (by decide) (by omega) (fun hT132 => ?_) (fun hF132 => ?_)
      · skip
        refine a_ald0 eX10_arrives_141 ?_
        refine a_getR 25 184 eX10_arrives_142 fl_X10_48 rfl rfl sh_171 ((congrFun (congrFun hR _) _).trans rf_171_25) ?_
        refine a_ild2 eX10_arrives_145 ?_
        refine a_iald eX10_arrives_146 sh_184 rfl (by omega) ?_
        refine a_ist5 eX10_arrives_147 (by decide) aw_n2i ?_
        have e9 : k = btp m r := btp_eq ⟨hkk, hf, by first | exact Or.inl (by omega) | exact Or.inr (by omega)⟩
        rw [dr.1, e9]
        exact AW.st (aw_sa_self σ 183 (g := fun j => if 18 * r + m 10 r < j ∧ j ≤ 18 * r + m 10 r then σ.1 183 (j - 1) else σ.1 183 j) (fun j => if_neg (by omega))).symm (lp_arrS1 hR hC wC hM w1 hX hN hst hk hby hms hroom _ (m 10 r) (Nat.le_refl _) (by omega))
      · skip
        refine a_iinc4 eX10_arrives_135 (by decide) aw_n2i ?_
        refine a_goto 98 eX10_arrives_138 (by decide) ?_
        exact ih (k + 1) lx (by omega) (by omega) (fun j j1 j2 => by
          by_cases e : j < k
          · exact hf j j1 e
          · rw [show j = k by omega]; omega)

set_option maxHeartbeats 4000000 in
set_option maxRecDepth 100000 in
theorem c_X10_arrives {l : Launch} {σ : aw_S} {Post : Option Value → aw_S → Prop} {tw cs : Bool} (hR : σ.2.2 = RF tw cs) {N c r : Int} {m : mS} (hC : cityM σ m) (wC : wfCity m) (hM : dayM σ m) (w1 : wfD1 m N c) (hX : wfComer m N c r) (hN : 0 ≤ N ∧ N ≤ 1000) (hst : m (100 + c) 1 = 1) (hk : ∀ σ', dayM σ' (marr m c r) → frM σ σ' → Post none σ')  : AE l yX10_arrives cX10_arrives 6 (none : Option Jvm.ClassFile.FieldType) 2 48 0 0 SH SH σ [.ref 171, .int (jI c)] Post := by
  show AW l yX10_arrives cX10_arrives 6 (none : Option Jvm.ClassFile.FieldType) 2 48 0 0 SH Post SH 0 0 σ 0 [some (.ref 171), some (.int (jI c)), none, none, none, none] []
  obtain ⟨c1, c2, c3, c4, c5, c6, c7⟩ := id hC
  obtain ⟨y1, y2, y3, y4, y5, y6, y7, y8⟩ := id wC
  obtain ⟨d1, d2, d3, d4, d5, d6, d7⟩ := id hM
  obtain ⟨v1, v2, v3, v4, v5, v6, v7, v8⟩ := id w1
  obtain ⟨x1, ⟨x2, x2a, x2b⟩, x3, x4, x5, x6, x7, x8, x9⟩ := id hX
  simp only [Int.zero_add] at d4 d5 d6 d7
  have cr := c2 r (by omega) (by omega)
  have yr := y2 r (by omega) (by omega)
  have vr := v4 r (by omega) (by omega)
  have dr := d4 r (by omega) (by omega)
  have kc := d5 c (by omega) (by omega)
  unfold cabM at kc
  obtain ⟨k0, k9, k1, k2, k3, k4, k5, k6, k7, k8, k10⟩ := kc
  have k2 := (k2 (Or.inl hst)).trans x2
  have hlt : m 10 r < m 0 4 := pig_c x1 vr.1.1 (fun k k1 k2 => by have := v6 r k (by omega) (by omega) k1 k2; exact ⟨this.1, this.2.1⟩) (fun k j k1 k2 j1 j2 q => v7 r k j (by omega) (by omega) k1 k2 j1 j2 q)
  refine a_ald0 eX10_arrives_0 ?_
  refine a_ild1 eX10_arrives_1 ?_
  refine a_iconst eX10_arrives_2 ?_
  refine a_cV2 eX10_arrives_3 lk_X10_276 mV_X10_of0 sh_171 ⟨_, rfl, rfl⟩ mt_X10_of0 rfl rfl rfl rfl rfl rfl (c_X10_of0 hR (by omega) ?_)
  dsimp only [Option.toList, List.cons_append, List.nil_append]
  refine a_eqtop (y0 := r) (by exact k2) ?_
  refine a_ist2 eX10_arrives_6 (by decide) aw_n2i ?_
  refine a_ald0 eX10_arrives_7 ?_
  refine a_ild2 eX10_arrives_8 ?_
  refine a_ald0 eX10_arrives_9 ?_
  refine a_ild1 eX10_arrives_10 ?_
  refine a_bipush eX10_arrives_11 (by decide) ?_
  refine a_cV2 eX10_arrives_13 lk_X10_276 mV_X10_of0 sh_171 ⟨_, rfl, rfl⟩ mt_X10_of0 rfl rfl rfl rfl rfl rfl (c_X10_of0 hR (by omega) ?_)
  dsimp only [Option.toList, List.cons_append, List.nil_append]
  refine a_eqtop (y0 := m (100 + c) 0) (by exact k9) ?_
  refine a_ald0 eX10_arrives_16 ?_
  refine a_getI 21 eX10_arrives_17 fl_X10_243 rfl rfl sh_171 ?_
  refine a_eqtop (y0 := m 0 3) (by exact d1) ?_
  refine a_bipush eX10_arrives_20 (by decide) ?_
  refine a_idiv eX10_arrives_22 (by omega) (by omega) ?_
  refine a_bipush eX10_arrives_23 (by decide) ?_
  refine a_irem eX10_arrives_25 (by omega) (by omega) ?_
  refine a_iconst eX10_arrives_26 ?_
  refine a_cV4 eX10_arrives_27 lk_X10_258 mV_X10_canStand sh_171 ⟨_, rfl, rfl⟩ mt_X10_canStand rfl rfl rfl rfl rfl rfl rfl rfl (c_X10_canStand (L := 0) hR hC wC (by omega) (by omega) (by omega) (by decide) (fun hT27 => ?_) (fun hF27 => ?_))
  · skip
    dsimp only [Option.toList, List.cons_append, List.nil_append]
    refine a_if_eq 47 eX10_arrives_30 (by decide) (by omega) (fun h => absurd h (by decide)) (fun _ => ?_)
    refine a_ald0 eX10_arrives_33 ?_
    refine a_getR 25 184 eX10_arrives_34 fl_X10_48 rfl rfl sh_171 ((congrFun (congrFun hR _) _).trans rf_171_25) ?_
    refine a_ild2 eX10_arrives_37 ?_
    refine a_iald eX10_arrives_38 sh_184 rfl (by omega) ?_
    refine a_ald0 eX10_arrives_39 ?_
    refine a_ild2 eX10_arrives_40 ?_
    refine a_cV1 eX10_arrives_41 lk_X10_286 mV_X10_room sh_171 ⟨_, rfl, rfl⟩ mt_X10_room rfl rfl rfl rfl rfl (c_X10_room hR (by omega) ?_)
    dsimp only [Option.toList, List.cons_append, List.nil_append]
    refine a_icmp_ne 66 eX10_arrives_44 (by decide) (by omega) (fun hT44 => ?_) (fun hF44 => ?_)
    · skip
      refine a_ald0 eX10_arrives_66 ?_
      refine a_ild1 eX10_arrives_67 ?_
      refine a_iconst eX10_arrives_68 ?_
      refine a_cV2 eX10_arrives_69 lk_X10_276 mV_X10_of0 sh_171 ⟨_, rfl, rfl⟩ mt_X10_of0 rfl rfl rfl rfl rfl rfl (c_X10_of0 hR (by omega) ?_)
      dsimp only [Option.toList, List.cons_append, List.nil_append]
      refine a_eqtop (y0 := m (100 + c) 5) (by exact k4) ?_
      refine a_ild2 eX10_arrives_72 ?_
      refine a_icmp_ne 93 eX10_arrives_73 (by decide) (by omega) (fun hT73 => ?_) (fun hF73 => ?_)
      · skip
        refine a_iconst eX10_arrives_93 ?_
        refine a_ist3 eX10_arrives_94 (by decide) aw_n2i ?_
        refine a_iconst eX10_arrives_95 ?_
        refine a_ist4 eX10_arrives_96 (by decide) aw_n2i ?_
        exact lp_arrP0 hR hC wC hM w1 hX hN hst hk (by omega) hT27 (by omega) _ 0 none (Nat.le_refl _) (by omega)
      · skip
        refine a_ald0 eX10_arrives_76 ?_
        refine a_getI 21 eX10_arrives_77 fl_X10_243 rfl rfl sh_171 ?_
        refine a_eqtop (y0 := m 0 3) (by exact d1) ?_
        refine a_ald0 eX10_arrives_80 ?_
        refine a_ild1 eX10_arrives_81 ?_
        refine a_iconst eX10_arrives_82 ?_
        refine a_cV2 eX10_arrives_83 lk_X10_276 mV_X10_of0 sh_171 ⟨_, rfl, rfl⟩ mt_X10_of0 rfl rfl rfl rfl rfl rfl (c_X10_of0 hR (by omega) ?_)
        dsimp only [Option.toList, List.cons_append, List.nil_append]
        refine a_eqtop (y0 := m (100 + c) 6) (by exact k5) ?_
        refine a_icmp_gt 93 eX10_arrives_86 (by decide) (by omega) (fun hT86 => ?_) (fun hF86 => ?_)
        · skip
          refine a_iconst eX10_arrives_93 ?_
          refine a_ist3 eX10_arrives_94 (by decide) aw_n2i ?_
          refine a_iconst eX10_arrives_95 ?_
          refine a_ist4 eX10_arrives_96 (by decide) aw_n2i ?_
          exact lp_arrP0 hR hC wC hM w1 hX hN hst hk (by omega) hT27 (by omega) _ 0 none (Nat.le_refl _) (by omega)
        · skip
          refine a_iconst eX10_arrives_89 ?_
          refine a_goto 94 eX10_arrives_90 (by decide) ?_
          refine a_ist3 eX10_arrives_94 (by decide) aw_n2i ?_
          refine a_iconst eX10_arrives_95 ?_
          refine a_ist4 eX10_arrives_96 (by decide) aw_n2i ?_
          exact lp_arrP1 hR hC wC hM w1 hX hN hst hk (by omega) hT27 (by omega) _ 0 none (Nat.le_refl _) (by omega) (fun j j1 j2 => by omega)
    · skip
      refine a_ald0 eX10_arrives_47 ?_
      refine a_ild1 eX10_arrives_48 ?_
      refine a_iconst eX10_arrives_49 ?_
      refine a_iconst eX10_arrives_50 ?_
      refine a_cV3 eX10_arrives_51 lk_X10_269 mV_X10_sets sh_171 ⟨_, rfl, rfl⟩ mt_X10_sets rfl rfl rfl rfl rfl rfl rfl (c_X10_sets hR (by omega) ?_)
      dsimp only [Option.toList, List.cons_append, List.nil_append]
      refine a_ald0 eX10_arrives_54 ?_
      refine a_ild1 eX10_arrives_55 ?_
      refine a_iconst eX10_arrives_56 ?_
      refine a_ald0 eX10_arrives_57 ?_
      refine a_ild2 eX10_arrives_58 ?_
      refine a_cV1 eX10_arrives_59 lk_X10_279 mV_X10_place sh_171 ⟨_, rfl, rfl⟩ mt_X10_place rfl rfl rfl rfl rfl (c_X10_place hR (by omega) ?_)
      dsimp only [Option.toList, List.cons_append, List.nil_append]
      refine a_cV3 eX10_arrives_62 lk_X10_269 mV_X10_sets sh_171 ⟨_, rfl, rfl⟩ mt_X10_sets rfl rfl rfl rfl rfl rfl rfl (c_X10_sets hR (by omega) ?_)
      dsimp only [Option.toList, List.cons_append, List.nil_append]
      refine a_vret eX10_arrives_65 rfl rfl ⟨Nat.zero_le _, Nat.zero_le _⟩ ?_
      refine hk _ ?_ ⟨fun a j h h9 => by simp only [rd_si]; (repeat rw [if_neg (by omega)]), rfl⟩
      rw [show marr m c r = upr m (100 + c) (xem m c (m 1 r)) from if_neg (fun q => by first | exact hF27 q.1 | omega)]
      refine dayM_cab x1 (by omega) hM (fun a j q => by simp only [rd_si]; (repeat rw [if_neg (by omega)])) ?_
      unfold cabM
      simp only [rd_si, true_and, xem]
      refine ⟨?_, ?_, ?_, ?_, ?_, ?_, ?_, ?_, ?_, ?_, ?_⟩
      · (repeat (first | rw [if_pos (by omega)] | rw [if_neg (by omega)])); (try rfl)
      · (repeat (first | rw [if_pos (by omega)] | rw [if_neg (by omega)])); exact k9
      · intro _; (repeat (first | rw [if_pos (by omega)] | rw [if_neg (by omega)])); exact cr.1
      · intro q; simp at q
      · intro q; simp at q
      · (repeat (first | rw [if_pos (by omega)] | rw [if_neg (by omega)])); exact k4
      · (repeat (first | rw [if_pos (by omega)] | rw [if_neg (by omega)])); exact k5
      · (repeat (first | rw [if_pos (by omega)] | rw [if_neg (by omega)])); exact k6
      · (repeat (first | rw [if_pos (by omega)] | rw [if_neg (by omega)])); exact k7
      · (repeat (first | rw [if_pos (by omega)] | rw [if_neg (by omega)])); exact k8
      · (repeat (first | rw [if_pos (by omega)] | rw [if_neg (by omega)])); exact k10
  · skip
    dsimp only [Option.toList, List.cons_append, List.nil_append]
    refine a_if_eq 47 eX10_arrives_30 (by decide) (by omega) (fun _ => ?_) (fun h => absurd h (by decide))
    refine a_ald0 eX10_arrives_47 ?_
    refine a_ild1 eX10_arrives_48 ?_
    refine a_iconst eX10_arrives_49 ?_
    refine a_iconst eX10_arrives_50 ?_
    refine a_cV3 eX10_arrives_51 lk_X10_269 mV_X10_sets sh_171 ⟨_, rfl, rfl⟩ mt_X10_sets rfl rfl rfl rfl rfl rfl rfl (c_X10_sets hR (by omega) ?_)
    dsimp only [Option.toList, List.cons_append, List.nil_append]
    refine a_ald0 eX10_arrives_54 ?_
    refine a_ild1 eX10_arrives_55 ?_
    refine a_iconst eX10_arrives_56 ?_
    refine a_ald0 eX10_arrives_57 ?_
    refine a_ild2 eX10_arrives_58 ?_
    refine a_cV1 eX10_arrives_59 lk_X10_279 mV_X10_place sh_171 ⟨_, rfl, rfl⟩ mt_X10_place rfl rfl rfl rfl rfl (c_X10_place hR (by omega) ?_)
    dsimp only [Option.toList, List.cons_append, List.nil_append]
    refine a_cV3 eX10_arrives_62 lk_X10_269 mV_X10_sets sh_171 ⟨_, rfl, rfl⟩ mt_X10_sets rfl rfl rfl rfl rfl rfl rfl (c_X10_sets hR (by omega) ?_)
    dsimp only [Option.toList, List.cons_append, List.nil_append]
    refine a_vret eX10_arrives_65 rfl rfl ⟨Nat.zero_le _, Nat.zero_le _⟩ ?_
    refine hk _ ?_ ⟨fun a j h h9 => by simp only [rd_si]; (repeat rw [if_neg (by omega)]), rfl⟩
    rw [show marr m c r = upr m (100 + c) (xem m c (m 1 r)) from if_neg (fun q => by first | exact hF27 q.1 | omega)]
    refine dayM_cab x1 (by omega) hM (fun a j q => by simp only [rd_si]; (repeat rw [if_neg (by omega)])) ?_
    unfold cabM
    simp only [rd_si, true_and, xem]
    refine ⟨?_, ?_, ?_, ?_, ?_, ?_, ?_, ?_, ?_, ?_, ?_⟩
    · (repeat (first | rw [if_pos (by omega)] | rw [if_neg (by omega)])); (try rfl)
    · (repeat (first | rw [if_pos (by omega)] | rw [if_neg (by omega)])); exact k9
    · intro _; (repeat (first | rw [if_pos (by omega)] | rw [if_neg (by omega)])); exact cr.1
    · intro q; simp at q
    · intro q; simp at q
    · (repeat (first | rw [if_pos (by omega)] | rw [if_neg (by omega)])); exact k4
    · (repeat (first | rw [if_pos (by omega)] | rw [if_neg (by omega)])); exact k5
    · (repeat (first | rw [if_pos (by omega)] | rw [if_neg (by omega)])); exact k6
    · (repeat (first | rw [if_pos (by omega)] | rw [if_neg (by omega)])); exact k7
    · (repeat (first | rw [if_pos (by omega)] | rw [if_neg (by omega)])); exact k8
    · (repeat (first | rw [if_pos (by omega)] | rw [if_neg (by omega)])); exact k10
