/-- how far apart two places are -/
def aw_ap (a b : Int) : Int := if b < a then a - b else b - a
set_option maxHeartbeats 4000000 in
set_option maxRecDepth 100000 in
theorem c_X9_within {l : Launch} {σ : aw_S} {Post : Option Value → aw_S → Prop} {v lo hi : Int} (hr : (-2147483648 ≤ v ∧ v ≤ 2147483647) ∧ (-2147483648 ≤ lo ∧ lo ≤ 2147483647) ∧ (-2147483648 ≤ hi ∧ hi ≤ 2147483647)) (h1 : (lo ≤ v ∧ v ≤ hi) → Post (some (.int (jI 1))) σ) (h0 : ¬ ((lo ≤ v ∧ v ≤ hi)) → Post (some (.int (jI 0))) σ) : AE l yX9_within cX9_within 3 (some .boolean) 0 0 0 0 SH SH σ [.int (jI v), .int (jI lo), .int (jI hi)] Post := by
  show AW l yX9_within cX9_within 3 (some .boolean) 0 0 0 0 SH Post SH 0 0 σ 0 [some (.int (jI v)), some (.int (jI lo)), some (.int (jI hi))] []
  refine a_ild0 eX9_within_0 ?_
  refine a_ild1 eX9_within_1 ?_
  refine a_icmp_lt 14 eX9_within_2 (by decide) (by omega) (fun hT2 => ?_) (fun hF2 => ?_)
  · skip
    refine a_iconst eX9_within_14 ?_
    refine a_zret eX9_within_15 rfl (by first | exact Or.inl rfl | exact Or.inr rfl | omega) rfl ⟨Nat.zero_le _, Nat.zero_le _⟩ ?_
    first | exact h1 (by omega) | exact h0 (by omega)
  · skip
    refine a_ild0 eX9_within_5 ?_
    refine a_ild2 eX9_within_6 ?_
    refine a_icmp_gt 14 eX9_within_7 (by decide) (by omega) (fun hT7 => ?_) (fun hF7 => ?_)
    · skip
      refine a_iconst eX9_within_14 ?_
      refine a_zret eX9_within_15 rfl (by first | exact Or.inl rfl | exact Or.inr rfl | omega) rfl ⟨Nat.zero_le _, Nat.zero_le _⟩ ?_
      first | exact h1 (by omega) | exact h0 (by omega)
    · skip
      refine a_iconst eX9_within_10 ?_
      refine a_goto 15 eX9_within_11 (by decide) ?_
      refine a_zret eX9_within_15 rfl (by first | exact Or.inl rfl | exact Or.inr rfl | omega) rfl ⟨Nat.zero_le _, Nat.zero_le _⟩ ?_
      first | exact h1 (by omega) | exact h0 (by omega)

set_option maxHeartbeats 4000000 in
set_option maxRecDepth 100000 in
theorem c_X10_in {l : Launch} {σ : aw_S} {Post : Option Value → aw_S → Prop} {v lo hi : Int} (hr : (-2147483648 ≤ v ∧ v ≤ 2147483647) ∧ (-2147483648 ≤ lo ∧ lo ≤ 2147483647) ∧ (-2147483648 ≤ hi ∧ hi ≤ 2147483647)) (h1 : (lo ≤ v ∧ v ≤ hi) → Post (some (.int (jI 1))) σ) (h0 : ¬ ((lo ≤ v ∧ v ≤ hi)) → Post (some (.int (jI 0))) σ) : AE l yX10_in cX10_in 3 (some .boolean) 0 0 0 0 SH SH σ [.int (jI v), .int (jI lo), .int (jI hi)] Post := by
  show AW l yX10_in cX10_in 3 (some .boolean) 0 0 0 0 SH Post SH 0 0 σ 0 [some (.int (jI v)), some (.int (jI lo)), some (.int (jI hi))] []
  refine a_ild0 eX10_in_0 ?_
  refine a_ild1 eX10_in_1 ?_
  refine a_icmp_lt 14 eX10_in_2 (by decide) (by omega) (fun hT2 => ?_) (fun hF2 => ?_)
  · skip
    refine a_iconst eX10_in_14 ?_
    refine a_zret eX10_in_15 rfl (by first | exact Or.inl rfl | exact Or.inr rfl | omega) rfl ⟨Nat.zero_le _, Nat.zero_le _⟩ ?_
    first | exact h1 (by omega) | exact h0 (by omega)
  · skip
    refine a_ild0 eX10_in_5 ?_
    refine a_ild2 eX10_in_6 ?_
    refine a_icmp_gt 14 eX10_in_7 (by decide) (by omega) (fun hT7 => ?_) (fun hF7 => ?_)
    · skip
      refine a_iconst eX10_in_14 ?_
      refine a_zret eX10_in_15 rfl (by first | exact Or.inl rfl | exact Or.inr rfl | omega) rfl ⟨Nat.zero_le _, Nat.zero_le _⟩ ?_
      first | exact h1 (by omega) | exact h0 (by omega)
    · skip
      refine a_iconst eX10_in_10 ?_
      refine a_goto 15 eX10_in_11 (by decide) ?_
      refine a_zret eX10_in_15 rfl (by first | exact Or.inl rfl | exact Or.inr rfl | omega) rfl ⟨Nat.zero_le _, Nat.zero_le _⟩ ?_
      first | exact h1 (by omega) | exact h0 (by omega)

set_option maxHeartbeats 4000000 in
set_option maxRecDepth 100000 in
theorem c_X10_apart {l : Launch} {σ : aw_S} {Post : Option Value → aw_S → Prop} {a b : Int} (hr : (-2147483648 ≤ a ∧ a ≤ 2147483647) ∧ (-2147483648 ≤ b ∧ b ≤ 2147483647)) (hk : Post (some (.int (jI (aw_ap a b)))) σ) : AE l yX10_apart cX10_apart 2 (some .int) 0 0 0 0 SH SH σ [.int (jI a), .int (jI b)] Post := by
  show AW l yX10_apart cX10_apart 2 (some .int) 0 0 0 0 SH Post SH 0 0 σ 0 [some (.int (jI a)), some (.int (jI b))] []
  refine a_ild0 eX10_apart_0 ?_
  refine a_ild1 eX10_apart_1 ?_
  refine a_icmp_le 11 eX10_apart_2 (by decide) (by omega) (fun hT2 => ?_) (fun hF2 => ?_)
  · skip
    refine a_ild1 eX10_apart_11 ?_
    refine a_ild0 eX10_apart_12 ?_
    refine a_isub eX10_apart_13 ?_
    refine a_iret eX10_apart_14 rfl rfl ⟨Nat.zero_le _, Nat.zero_le _⟩ ?_
    first | exact (show aw_ap a b = a - b from if_pos (by omega)) ▸ hk | exact (show aw_ap a b = b - a from if_neg (by omega)) ▸ hk
  · skip
    refine a_ild0 eX10_apart_5 ?_
    refine a_ild1 eX10_apart_6 ?_
    refine a_isub eX10_apart_7 ?_
    refine a_goto 14 eX10_apart_8 (by decide) ?_
    refine a_iret eX10_apart_14 rfl rfl ⟨Nat.zero_le _, Nat.zero_le _⟩ ?_
    first | exact (show aw_ap a b = a - b from if_pos (by omega)) ▸ hk | exact (show aw_ap a b = b - a from if_neg (by omega)) ▸ hk

set_option maxHeartbeats 4000000 in
set_option maxRecDepth 100000 in
theorem c_X10_isLetter {l : Launch} {σ : aw_S} {Post : Option Value → aw_S → Prop} {v : Int} (hr : (-2147483648 ≤ v ∧ v ≤ 2147483647)) (h1 : (97 ≤ v ∧ v ≤ 122) → Post (some (.int (jI 1))) σ) (h0 : ¬ ((97 ≤ v ∧ v ≤ 122)) → Post (some (.int (jI 0))) σ) : AE l yX10_isLetter cX10_isLetter 1 (some .boolean) 0 0 0 0 SH SH σ [.int (jI v)] Post := by
  show AW l yX10_isLetter cX10_isLetter 1 (some .boolean) 0 0 0 0 SH Post SH 0 0 σ 0 [some (.int (jI v))] []
  refine a_ild0 eX10_isLetter_0 ?_
  refine a_bipush eX10_isLetter_1 (by decide) ?_
  refine a_icmp_lt 16 eX10_isLetter_3 (by decide) (by omega) (fun hT3 => ?_) (fun hF3 => ?_)
  · skip
    refine a_iconst eX10_isLetter_16 ?_
    refine a_zret eX10_isLetter_17 rfl (by first | exact Or.inl rfl | exact Or.inr rfl | omega) rfl ⟨Nat.zero_le _, Nat.zero_le _⟩ ?_
    first | exact h1 (by omega) | exact h0 (by omega)
  · skip
    refine a_ild0 eX10_isLetter_6 ?_
    refine a_bipush eX10_isLetter_7 (by decide) ?_
    refine a_icmp_gt 16 eX10_isLetter_9 (by decide) (by omega) (fun hT9 => ?_) (fun hF9 => ?_)
    · skip
      refine a_iconst eX10_isLetter_16 ?_
      refine a_zret eX10_isLetter_17 rfl (by first | exact Or.inl rfl | exact Or.inr rfl | omega) rfl ⟨Nat.zero_le _, Nat.zero_le _⟩ ?_
      first | exact h1 (by omega) | exact h0 (by omega)
    · skip
      refine a_iconst eX10_isLetter_12 ?_
      refine a_goto 17 eX10_isLetter_13 (by decide) ?_
      refine a_zret eX10_isLetter_17 rfl (by first | exact Or.inl rfl | exact Or.inr rfl | omega) rfl ⟨Nat.zero_le _, Nat.zero_le _⟩ ?_
      first | exact h1 (by omega) | exact h0 (by omega)

set_option maxHeartbeats 4000000 in
set_option maxRecDepth 100000 in
theorem c_X10_isDigit {l : Launch} {σ : aw_S} {Post : Option Value → aw_S → Prop} {v : Int} (hr : (-2147483648 ≤ v ∧ v ≤ 2147483647)) (h1 : (48 ≤ v ∧ v ≤ 57) → Post (some (.int (jI 1))) σ) (h0 : ¬ ((48 ≤ v ∧ v ≤ 57)) → Post (some (.int (jI 0))) σ) : AE l yX10_isDigit cX10_isDigit 1 (some .boolean) 0 0 0 0 SH SH σ [.int (jI v)] Post := by
  show AW l yX10_isDigit cX10_isDigit 1 (some .boolean) 0 0 0 0 SH Post SH 0 0 σ 0 [some (.int (jI v))] []
  refine a_ild0 eX10_isDigit_0 ?_
  refine a_bipush eX10_isDigit_1 (by decide) ?_
  refine a_icmp_lt 16 eX10_isDigit_3 (by decide) (by omega) (fun hT3 => ?_) (fun hF3 => ?_)
  · skip
    refine a_iconst eX10_isDigit_16 ?_
    refine a_zret eX10_isDigit_17 rfl (by first | exact Or.inl rfl | exact Or.inr rfl | omega) rfl ⟨Nat.zero_le _, Nat.zero_le _⟩ ?_
    first | exact h1 (by omega) | exact h0 (by omega)
  · skip
    refine a_ild0 eX10_isDigit_6 ?_
    refine a_bipush eX10_isDigit_7 (by decide) ?_
    refine a_icmp_gt 16 eX10_isDigit_9 (by decide) (by omega) (fun hT9 => ?_) (fun hF9 => ?_)
    · skip
      refine a_iconst eX10_isDigit_16 ?_
      refine a_zret eX10_isDigit_17 rfl (by first | exact Or.inl rfl | exact Or.inr rfl | omega) rfl ⟨Nat.zero_le _, Nat.zero_le _⟩ ?_
      first | exact h1 (by omega) | exact h0 (by omega)
    · skip
      refine a_iconst eX10_isDigit_12 ?_
      refine a_goto 17 eX10_isDigit_13 (by decide) ?_
      refine a_zret eX10_isDigit_17 rfl (by first | exact Or.inl rfl | exact Or.inr rfl | omega) rfl ⟨Nat.zero_le _, Nat.zero_le _⟩ ?_
      first | exact h1 (by omega) | exact h0 (by omega)

set_option maxHeartbeats 4000000 in
set_option maxRecDepth 100000 in
theorem c_X10_areMinutes {l : Launch} {σ : aw_S} {Post : Option Value → aw_S → Prop} {v : Int} (hr : (-2147483648 ≤ v ∧ v ≤ 2147483647)) (h1 : (1 ≤ v ∧ v ≤ 240) → Post (some (.int (jI 1))) σ) (h0 : ¬ ((1 ≤ v ∧ v ≤ 240)) → Post (some (.int (jI 0))) σ) : AE l yX10_areMinutes cX10_areMinutes 1 (some .boolean) 1 22 0 0 SH SH σ [.int (jI v)] Post := by
  show AW l yX10_areMinutes cX10_areMinutes 1 (some .boolean) 1 22 0 0 SH Post SH 0 0 σ 0 [some (.int (jI v))] []
  refine a_ild0 eX10_areMinutes_0 ?_
  refine a_iconst eX10_areMinutes_1 ?_
  refine a_sipush eX10_areMinutes_2 (by decide) ?_
  refine a_cS3 eX10_areMinutes_5 lk_X10_128 mS_X10_in mt_X10_in rfl rfl rfl rfl rfl rfl rfl (c_X10_in (by omega) (fun hT5 => ?_) (fun hF5 => ?_))
  · skip
    dsimp only [Option.toList, List.cons_append, List.nil_append]
    refine a_zret eX10_areMinutes_8 rfl (by first | exact Or.inl rfl | exact Or.inr rfl | omega) rfl ⟨Nat.zero_le _, Nat.zero_le _⟩ ?_
    first | exact h1 (by omega) | exact h0 (by omega)
  · skip
    dsimp only [Option.toList, List.cons_append, List.nil_append]
    refine a_zret eX10_areMinutes_8 rfl (by first | exact Or.inl rfl | exact Or.inr rfl | omega) rfl ⟨Nat.zero_le _, Nat.zero_le _⟩ ?_
    first | exact h1 (by omega) | exact h0 (by omega)

set_option maxHeartbeats 4000000 in
set_option maxRecDepth 100000 in
theorem c_X10_isFare {l : Launch} {σ : aw_S} {Post : Option Value → aw_S → Prop} {v p : Int} (hr : (-2147483648 ≤ v ∧ v ≤ 2147483647) ∧ (-2147483648 ≤ p ∧ p ≤ 2147483647)) (h1 : ((1 ≤ v ∧ v ≤ 240) ∧ (0 ≤ p ∧ p ≤ 99)) → Post (some (.int (jI 1))) σ) (h0 : ¬ (((1 ≤ v ∧ v ≤ 240) ∧ (0 ≤ p ∧ p ≤ 99))) → Post (some (.int (jI 0))) σ) : AE l yX10_isFare cX10_isFare 2 (some .boolean) 2 42 0 0 SH SH σ [.int (jI v), .int (jI p)] Post := by
  show AW l yX10_isFare cX10_isFare 2 (some .boolean) 2 42 0 0 SH Post SH 0 0 σ 0 [some (.int (jI v)), some (.int (jI p))] []
  refine a_ild0 eX10_isFare_0 ?_
  refine a_cS1 eX10_isFare_1 lk_X10_262 mS_X10_areMinutes mt_X10_areMinutes rfl rfl rfl rfl rfl (c_X10_areMinutes (by omega) (fun hT1 => ?_) (fun hF1 => ?_))
  · skip
    dsimp only [Option.toList, List.cons_append, List.nil_append]
    refine a_if_eq 21 eX10_isFare_4 (by decide) (by omega) (fun h => absurd h (by decide)) (fun _ => ?_)
    refine a_ild1 eX10_isFare_7 ?_
    refine a_iconst eX10_isFare_8 ?_
    refine a_bipush eX10_isFare_9 (by decide) ?_
    refine a_cS3 eX10_isFare_11 lk_X10_128 mS_X10_in mt_X10_in rfl rfl rfl rfl rfl rfl rfl (c_X10_in (by omega) (fun hT11 => ?_) (fun hF11 => ?_))
    · skip
      dsimp only [Option.toList, List.cons_append, List.nil_append]
      refine a_if_eq 21 eX10_isFare_14 (by decide) (by omega) (fun h => absurd h (by decide)) (fun _ => ?_)
      refine a_iconst eX10_isFare_17 ?_
      refine a_goto 22 eX10_isFare_18 (by decide) ?_
      refine a_zret eX10_isFare_22 rfl (by first | exact Or.inl rfl | exact Or.inr rfl | omega) rfl ⟨Nat.zero_le _, Nat.zero_le _⟩ ?_
      first | exact h1 (by omega) | exact h0 (by omega)
    · skip
      dsimp only [Option.toList, List.cons_append, List.nil_append]
      refine a_if_eq 21 eX10_isFare_14 (by decide) (by omega) (fun _ => ?_) (fun h => absurd h (by decide))
      refine a_iconst eX10_isFare_21 ?_
      refine a_zret eX10_isFare_22 rfl (by first | exact Or.inl rfl | exact Or.inr rfl | omega) rfl ⟨Nat.zero_le _, Nat.zero_le _⟩ ?_
      first | exact h1 (by omega) | exact h0 (by omega)
  · skip
    dsimp only [Option.toList, List.cons_append, List.nil_append]
    refine a_if_eq 21 eX10_isFare_4 (by decide) (by omega) (fun _ => ?_) (fun h => absurd h (by decide))
    refine a_iconst eX10_isFare_21 ?_
    refine a_zret eX10_isFare_22 rfl (by first | exact Or.inl rfl | exact Or.inr rfl | omega) rfl ⟨Nat.zero_le _, Nat.zero_le _⟩ ?_
    first | exact h1 (by omega) | exact h0 (by omega)

set_option maxHeartbeats 4000000 in
set_option maxRecDepth 100000 in
theorem c_X9_isFare {l : Launch} {σ : aw_S} {Post : Option Value → aw_S → Prop} {v p : Int} (hr : (-2147483648 ≤ v ∧ v ≤ 2147483647) ∧ (-2147483648 ≤ p ∧ p ≤ 2147483647)) (h1 : ((1 ≤ v ∧ v ≤ 240) ∧ (0 ≤ p ∧ p ≤ 99)) → Post (some (.int (jI 1))) σ) (h0 : ¬ (((1 ≤ v ∧ v ≤ 240) ∧ (0 ≤ p ∧ p ≤ 99))) → Post (some (.int (jI 0))) σ) : AE l yX9_isFare cX9_isFare 2 (some .boolean) 1 22 0 0 SH SH σ [.int (jI v), .int (jI p)] Post := by
  show AW l yX9_isFare cX9_isFare 2 (some .boolean) 1 22 0 0 SH Post SH 0 0 σ 0 [some (.int (jI v)), some (.int (jI p))] []
  refine a_ild0 eX9_isFare_0 ?_
  refine a_iconst eX9_isFare_1 ?_
  refine a_sipush eX9_isFare_2 (by decide) ?_
  refine a_cS3 eX9_isFare_5 lk_X9_81 mS_X9_within mt_X9_within rfl rfl rfl rfl rfl rfl rfl (c_X9_within (by omega) (fun hT5 => ?_) (fun hF5 => ?_))
  · skip
    dsimp only [Option.toList, List.cons_append, List.nil_append]
    refine a_if_eq 25 eX9_isFare_8 (by decide) (by omega) (fun h => absurd h (by decide)) (fun _ => ?_)
    refine a_ild1 eX9_isFare_11 ?_
    refine a_iconst eX9_isFare_12 ?_
    refine a_bipush eX9_isFare_13 (by decide) ?_
    refine a_cS3 eX9_isFare_15 lk_X9_81 mS_X9_within mt_X9_within rfl rfl rfl rfl rfl rfl rfl (c_X9_within (by omega) (fun hT15 => ?_) (fun hF15 => ?_))
    · skip
      dsimp only [Option.toList, List.cons_append, List.nil_append]
      refine a_if_eq 25 eX9_isFare_18 (by decide) (by omega) (fun h => absurd h (by decide)) (fun _ => ?_)
      refine a_iconst eX9_isFare_21 ?_
      refine a_goto 26 eX9_isFare_22 (by decide) ?_
      refine a_zret eX9_isFare_26 rfl (by first | exact Or.inl rfl | exact Or.inr rfl | omega) rfl ⟨Nat.zero_le _, Nat.zero_le _⟩ ?_
      first | exact h1 (by omega) | exact h0 (by omega)
    · skip
      dsimp only [Option.toList, List.cons_append, List.nil_append]
      refine a_if_eq 25 eX9_isFare_18 (by decide) (by omega) (fun _ => ?_) (fun h => absurd h (by decide))
      refine a_iconst eX9_isFare_25 ?_
      refine a_zret eX9_isFare_26 rfl (by first | exact Or.inl rfl | exact Or.inr rfl | omega) rfl ⟨Nat.zero_le _, Nat.zero_le _⟩ ?_
      first | exact h1 (by omega) | exact h0 (by omega)
  · skip
    dsimp only [Option.toList, List.cons_append, List.nil_append]
    refine a_if_eq 25 eX9_isFare_8 (by decide) (by omega) (fun _ => ?_) (fun h => absurd h (by decide))
    refine a_iconst eX9_isFare_25 ?_
    refine a_zret eX9_isFare_26 rfl (by first | exact Or.inl rfl | exact Or.inr rfl | omega) rfl ⟨Nat.zero_le _, Nat.zero_le _⟩ ?_
    first | exact h1 (by omega) | exact h0 (by omega)

/-- begun units -/
def aw_bg (a u : Int) : Int := if u < 1 then a else (a + u - 1) / u
set_option maxHeartbeats 4000000 in
set_option maxRecDepth 100000 in
theorem c_X3_begun {l : Launch} {σ : aw_S} {Post : Option Value → aw_S → Prop} {v u : Int} (hr : 0 ≤ v ∧ v ≤ 1000000000 ∧ -1000000000 ≤ u ∧ u ≤ 1000000000) (hk : Post (some (.int (jI (aw_bg v u)))) σ) : AE l yX3_begun cX3_begun 2 (some .int) 0 0 0 0 SH SH σ [.int (jI v), .int (jI u)] Post := by
  show AW l yX3_begun cX3_begun 2 (some .int) 0 0 0 0 SH Post SH 0 0 σ 0 [some (.int (jI v)), some (.int (jI u))] []
  refine a_ild1 eX3_begun_0 ?_
  refine a_iconst eX3_begun_1 ?_
  refine a_icmp_ge 9 eX3_begun_2 (by decide) (by omega) (fun hT2 => ?_) (fun hF2 => ?_)
  · skip
    refine a_ild0 eX3_begun_9 ?_
    refine a_ild1 eX3_begun_10 ?_
    refine a_iadd eX3_begun_11 ?_
    refine a_iconst eX3_begun_12 ?_
    refine a_isub eX3_begun_13 ?_
    refine a_ild1 eX3_begun_14 ?_
    refine a_idiv eX3_begun_15 (by omega) (by omega) ?_
    refine a_iret eX3_begun_16 rfl rfl ⟨Nat.zero_le _, Nat.zero_le _⟩ ?_
    first | exact (show aw_bg v u = v from if_pos (by omega)) ▸ hk | exact (show aw_bg v u = (v + u - 1) / u from if_neg (by omega)) ▸ hk
  · skip
    refine a_ild0 eX3_begun_5 ?_
    refine a_goto 16 eX3_begun_6 (by decide) ?_
    refine a_iret eX3_begun_16 rfl rfl ⟨Nat.zero_le _, Nat.zero_le _⟩ ?_
    first | exact (show aw_bg v u = v from if_pos (by omega)) ▸ hk | exact (show aw_bg v u = (v + u - 1) / u from if_neg (by omega)) ▸ hk

set_option maxHeartbeats 4000000 in
set_option maxRecDepth 100000 in
theorem c_X10_isRank {l : Launch} {σ : aw_S} {Post : Option Value → aw_S → Prop} {r : Int} (hr : (-2147483648 ≤ r ∧ r ≤ 2147483647)) (hm : 0 ≤ (σ.1 171 14) ∧ (σ.1 171 14) ≤ 6) (h1 : (0 ≤ r ∧ r < (σ.1 171 14)) → Post (some (.int (jI 1))) σ) (h0 : ¬ ((0 ≤ r ∧ r < (σ.1 171 14))) → Post (some (.int (jI 0))) σ) : AE l yX10_isRank cX10_isRank 2 (some .boolean) 1 22 0 0 SH SH σ [.ref 171, .int (jI r)] Post := by
  show AW l yX10_isRank cX10_isRank 2 (some .boolean) 1 22 0 0 SH Post SH 0 0 σ 0 [some (.ref 171), some (.int (jI r))] []
  refine a_ild1 eX10_isRank_0 ?_
  refine a_iconst eX10_isRank_1 ?_
  refine a_ald0 eX10_isRank_2 ?_
  refine a_getI 14 eX10_isRank_3 fl_X10_235 rfl rfl sh_171 ?_
  refine a_iconst eX10_isRank_6 ?_
  refine a_isub eX10_isRank_7 ?_
  refine a_cS3 eX10_isRank_8 lk_X10_128 mS_X10_in mt_X10_in rfl rfl rfl rfl rfl rfl rfl (c_X10_in (by omega) (fun hT8 => ?_) (fun hF8 => ?_))
  · skip
    dsimp only [Option.toList, List.cons_append, List.nil_append]
    refine a_zret eX10_isRank_11 rfl (by first | exact Or.inl rfl | exact Or.inr rfl | omega) rfl ⟨Nat.zero_le _, Nat.zero_le _⟩ ?_
    first | exact h1 (by omega) | exact h0 (by omega)
  · skip
    dsimp only [Option.toList, List.cons_append, List.nil_append]
    refine a_zret eX10_isRank_11 rfl (by first | exact Or.inl rfl | exact Or.inr rfl | omega) rfl ⟨Nat.zero_le _, Nat.zero_le _⟩ ?_
    first | exact h1 (by omega) | exact h0 (by omega)

set_option maxHeartbeats 4000000 in
set_option maxRecDepth 100000 in
theorem c_X10_isCab {l : Launch} {σ : aw_S} {Post : Option Value → aw_S → Prop} {r : Int} (hr : (-2147483648 ≤ r ∧ r ≤ 2147483647)) (hm : 0 ≤ (σ.1 171 22) ∧ (σ.1 171 22) ≤ 16) (h1 : (0 ≤ r ∧ r < (σ.1 171 22)) → Post (some (.int (jI 1))) σ) (h0 : ¬ ((0 ≤ r ∧ r < (σ.1 171 22))) → Post (some (.int (jI 0))) σ) : AE l yX10_isCab cX10_isCab 2 (some .boolean) 1 22 0 0 SH SH σ [.ref 171, .int (jI r)] Post := by
  show AW l yX10_isCab cX10_isCab 2 (some .boolean) 1 22 0 0 SH Post SH 0 0 σ 0 [some (.ref 171), some (.int (jI r))] []
  refine a_ild1 eX10_isCab_0 ?_
  refine a_iconst eX10_isCab_1 ?_
  refine a_ald0 eX10_isCab_2 ?_
  refine a_getI 22 eX10_isCab_3 fl_X10_246 rfl rfl sh_171 ?_
  refine a_iconst eX10_isCab_6 ?_
  refine a_isub eX10_isCab_7 ?_
  refine a_cS3 eX10_isCab_8 lk_X10_128 mS_X10_in mt_X10_in rfl rfl rfl rfl rfl rfl rfl (c_X10_in (by omega) (fun hT8 => ?_) (fun hF8 => ?_))
  · skip
    dsimp only [Option.toList, List.cons_append, List.nil_append]
    refine a_zret eX10_isCab_11 rfl (by first | exact Or.inl rfl | exact Or.inr rfl | omega) rfl ⟨Nat.zero_le _, Nat.zero_le _⟩ ?_
    first | exact h1 (by omega) | exact h0 (by omega)
  · skip
    dsimp only [Option.toList, List.cons_append, List.nil_append]
    refine a_zret eX10_isCab_11 rfl (by first | exact Or.inl rfl | exact Or.inr rfl | omega) rfl ⟨Nat.zero_le _, Nat.zero_le _⟩ ?_
    first | exact h1 (by omega) | exact h0 (by omega)

set_option maxHeartbeats 4000000 in
set_option maxRecDepth 100000 in
theorem c_X10_place {l : Launch} {σ : aw_S} {Post : Option Value → aw_S → Prop} {r : Int} {tw cs : Bool} (hR : σ.2.2 = RF tw cs) (hr : 0 ≤ r ∧ r < 6) (hk : Post (some (.int (jI (σ.1 178 (3 * r))))) σ) : AE l yX10_place cX10_place 2 (some .int) 0 0 0 0 SH SH σ [.ref 171, .int (jI r)] Post := by
  show AW l yX10_place cX10_place 2 (some .int) 0 0 0 0 SH Post SH 0 0 σ 0 [some (.ref 171), some (.int (jI r))] []
  refine a_ald0 eX10_place_0 ?_
  refine a_getR 15 178 eX10_place_1 fl_X10_30 rfl rfl sh_171 ((congrFun (congrFun hR _) _).trans rf_171_15) ?_
  refine a_iconst eX10_place_4 ?_
  refine a_ild1 eX10_place_5 ?_
  refine a_imul eX10_place_6 ?_
  refine a_iald eX10_place_7 sh_178 rfl (by omega) ?_
  refine a_iret eX10_place_8 rfl rfl ⟨Nat.zero_le _, Nat.zero_le _⟩ ?_
  exact hk

set_option maxHeartbeats 4000000 in
set_option maxRecDepth 100000 in
theorem c_X10_room {l : Launch} {σ : aw_S} {Post : Option Value → aw_S → Prop} {r : Int} {tw cs : Bool} (hR : σ.2.2 = RF tw cs) (hr : 0 ≤ r ∧ r < 6) (hk : Post (some (.int (jI (σ.1 178 (3 * r + 1) + σ.1 178 (3 * r + 2))))) σ) : AE l yX10_room cX10_room 2 (some .int) 0 0 0 0 SH SH σ [.ref 171, .int (jI r)] Post := by
  show AW l yX10_room cX10_room 2 (some .int) 0 0 0 0 SH Post SH 0 0 σ 0 [some (.ref 171), some (.int (jI r))] []
  refine a_ald0 eX10_room_0 ?_
  refine a_getR 15 178 eX10_room_1 fl_X10_30 rfl rfl sh_171 ((congrFun (congrFun hR _) _).trans rf_171_15) ?_
  refine a_iconst eX10_room_4 ?_
  refine a_ild1 eX10_room_5 ?_
  refine a_imul eX10_room_6 ?_
  refine a_iconst eX10_room_7 ?_
  refine a_iadd eX10_room_8 ?_
  refine a_iald eX10_room_9 sh_178 rfl (by omega) ?_
  refine a_ald0 eX10_room_10 ?_
  refine a_getR 15 178 eX10_room_11 fl_X10_30 rfl rfl sh_171 ((congrFun (congrFun hR _) _).trans rf_171_15) ?_
  refine a_iconst eX10_room_14 ?_
  refine a_ild1 eX10_room_15 ?_
  refine a_imul eX10_room_16 ?_
  refine a_iconst eX10_room_17 ?_
  refine a_iadd eX10_room_18 ?_
  refine a_iald eX10_room_19 sh_178 rfl (by omega) ?_
  refine a_iadd eX10_room_20 ?_
  refine a_iret eX10_room_21 rfl rfl ⟨Nat.zero_le _, Nat.zero_le _⟩ ?_
  exact hk

set_option maxHeartbeats 4000000 in
set_option maxRecDepth 100000 in
theorem c_X10_of0 {l : Launch} {σ : aw_S} {Post : Option Value → aw_S → Prop} {c w : Int} {tw cs : Bool} (hR : σ.2.2 = RF tw cs) (hr : 0 ≤ c ∧ c < 16 ∧ 0 ≤ w ∧ w < 11) (hk : Post (some (.int (jI (σ.1 182 (11 * c + w))))) σ) : AE l yX10_of0 cX10_of0 3 (some .int) 0 0 0 0 SH SH σ [.ref 171, .int (jI c), .int (jI w)] Post := by
  show AW l yX10_of0 cX10_of0 3 (some .int) 0 0 0 0 SH Post SH 0 0 σ 0 [some (.ref 171), some (.int (jI c)), some (.int (jI w))] []
  refine a_ald0 eX10_of0_0 ?_
  refine a_getR 23 182 eX10_of0_1 fl_X10_42 rfl rfl sh_171 ((congrFun (congrFun hR _) _).trans rf_171_23) ?_
  refine a_bipush eX10_of0_4 (by decide) ?_
  refine a_ild1 eX10_of0_6 ?_
  refine a_imul eX10_of0_7 ?_
  refine a_ild2 eX10_of0_8 ?_
  refine a_iadd eX10_of0_9 ?_
  refine a_iald eX10_of0_10 sh_182 rfl (by omega) ?_
  refine a_iret eX10_of0_11 rfl rfl ⟨Nat.zero_le _, Nat.zero_le _⟩ ?_
  exact hk

set_option maxHeartbeats 4000000 in
set_option maxRecDepth 100000 in
theorem c_X10_sets {l : Launch} {σ : aw_S} {Post : Option Value → aw_S → Prop} {c w v : Int} {tw cs : Bool} (hR : σ.2.2 = RF tw cs) (hr : 0 ≤ c ∧ c < 16 ∧ 0 ≤ w ∧ w < 11) (hk : Post none (aw_si σ 182 (11 * c + w) v)) : AE l yX10_sets cX10_sets 4 (none : Option Jvm.ClassFile.FieldType) 0 0 0 0 SH SH σ [.ref 171, .int (jI c), .int (jI w), .int (jI v)] Post := by
  show AW l yX10_sets cX10_sets 4 (none : Option Jvm.ClassFile.FieldType) 0 0 0 0 SH Post SH 0 0 σ 0 [some (.ref 171), some (.int (jI c)), some (.int (jI w)), some (.int (jI v))] []
  refine a_ald0 eX10_sets_0 ?_
  refine a_getR 23 182 eX10_sets_1 fl_X10_42 rfl rfl sh_171 ((congrFun (congrFun hR _) _).trans rf_171_23) ?_
  refine a_bipush eX10_sets_4 (by decide) ?_
  refine a_ild1 eX10_sets_6 ?_
  refine a_imul eX10_sets_7 ?_
  refine a_ild2 eX10_sets_8 ?_
  refine a_iadd eX10_sets_9 ?_
  refine a_ild3 eX10_sets_10 ?_
  refine a_iast eX10_sets_11 sh_182 rfl (by omega) ?_
  refine a_vret eX10_sets_12 rfl rfl ⟨Nat.zero_le _, Nat.zero_le _⟩ ?_
  exact hk
