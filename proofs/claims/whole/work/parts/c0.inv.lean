/-! ===== what holds between the calls ===== -/
/-- a day carried to other rows of the model, and to a state that agrees -/
theorem dayC_tr {σ σ' : aw_S} {d : Nat} {b b' N : Int} {m m' : mS} (w : wfDay m b N) (hσ : ∀ (a : Nat) (j : Int), d ≤ a → a < d + 28 → σ'.1 a j = σ.1 a j) (h0 : m' b' 3 = m b 3 ∧ m' b' 4 = m b 4 ∧ m' b' 5 = m b 5) (hr : ∀ x j : Int, (x = 10 ∨ x = 11 ∨ 100 ≤ x) → x < 340 → m' (b' + x) j = m (b + x) j) (h : dayC σ d b m) : dayC σ' d b' m' := by
  obtain ⟨d1, d2, d3, d4, d5, d6, d7⟩ := h
  obtain ⟨v1, v2, v3, v4, -⟩ := w
  obtain ⟨h3, h4, h5⟩ := h0
  refine ⟨?_, ?_, ?_, fun r r1 r2 => ?_, fun c f c1 c2 f1 f2 => ?_, fun r k r1 r2 k1 k2 => ?_, fun i w i1 i2 w1 w2 => ?_⟩
  · rw [hσ d 0 (by omega) (by omega), h3]; exact d1
  · rw [hσ d 1 (by omega) (by omega), h4]; exact d2
  · rw [hσ d 6 (by omega) (by omega), h5]; exact d3
  · rw [hσ (d + 9) r (by omega) (by omega), hσ (d + 10) r (by omega) (by omega), hr 10 r (by omega) (by omega), hr 11 r (by omega) (by omega)]; exact d4 r r1 r2
  · rw [h4] at c2
    rw [hσ _ f (by omega) (by omega), Int.add_assoc, hr (100 + c) f (by omega) (by omega), ← Int.add_assoc]; exact d5 c f c1 c2 f1 f2
  · rw [hr 10 r (by omega) (by omega)] at k2
    rw [hσ _ k (by omega) (by omega), Int.add_assoc, hr (200 + r) k (by omega) (by omega), ← Int.add_assoc]; exact d6 r k r1 r2 k1 k2
  · rw [h5] at i2
    rw [hσ _ _ (by omega) (by omega), Int.add_assoc, hr (300 + i) w (by omega) (by omega), ← Int.add_assoc]; exact d7 i w i1 i2 w1 w2
theorem dayG_tr {mn nc np mn' nc' np' : Int} {cab stand stands people pass cab' stand' stands' people' pass' : Int → Int} {b b' N : Int} {m m' : mS} (w : wfDay m b N) (hn : mn' = mn ∧ nc' = nc ∧ np' = np) (e1 : ∀ j : Int, 0 ≤ j → j < 176 → cab' j = cab j) (e2 : ∀ j : Int, 0 ≤ j → j < 108 → stand' j = stand j) (e3 : ∀ j : Int, 0 ≤ j → j < 6 → stands' j = stands j) (e4 : ∀ j : Int, 0 ≤ j → j < 6 → people' j = people j) (e5 : ∀ j : Int, 0 ≤ j → j < 200 → pass' j = pass j)
    (h0 : m' b' 3 = m b 3 ∧ m' b' 4 = m b 4 ∧ m' b' 5 = m b 5) (hr : ∀ x j : Int, (x = 10 ∨ x = 11 ∨ 100 ≤ x) → x < 340 → m' (b' + x) j = m (b + x) j) (h : dayG mn nc np cab stand stands people pass b m) : dayG mn' nc' np' cab' stand' stands' people' pass' b' m' := by
  obtain ⟨v1, v2, v3, v4, -⟩ := w
  have h' := dayG_cong (by omega) (by omega) (fun r r1 r2 => (v4 r r1 r2).1.2) h e1 e2 e3 e4 e5
  obtain ⟨d1, d2, d3, d4, d5, d6, d7⟩ := h'
  obtain ⟨h3, h4, h5⟩ := h0
  obtain ⟨rfl, rfl, rfl⟩ := hn
  refine ⟨?_, ?_, ?_, fun r r1 r2 => ?_, fun c c1 c2 => ?_, fun r k r1 r2 k1 k2 => ?_, fun i w i1 i2 w1 w2 => ?_⟩
  · rw [h3]; exact d1
  · rw [h4]; exact d2
  · rw [h5]; exact d3
  · rw [hr 10 r (by omega) (by omega), hr 11 r (by omega) (by omega)]; exact d4 r r1 r2
  · rw [h4] at c2
    have e : m' (b' + 100 + c) = m (b + 100 + c) := funext (fun j => by rw [Int.add_assoc, hr (100 + c) j (by omega) (by omega), ← Int.add_assoc])
    rw [e]; exact d5 c c1 c2
  · rw [hr 10 r (by omega) (by omega)] at k2
    rw [Int.add_assoc, hr (200 + r) k (by omega) (by omega), ← Int.add_assoc]; exact d6 r k r1 r2 k1 k2
  · rw [h5] at i2
    rw [Int.add_assoc, hr (300 + i) w (by omega) (by omega), ← Int.add_assoc]; exact d7 i w i1 i2 w1 w2
theorem wfDay_tr {b b' N : Int} {m m' : mS} (h6 : m 0 0 ≤ 6) (hC : m' 0 0 = m 0 0 ∧ (∀ r : Int, m' 1 r = m 1 r ∧ m' 2 r = m 2 r ∧ m' 3 r = m 3 r)) (h0 : m' b' 3 = m b 3 ∧ m' b' 4 = m b 4 ∧ m' b' 5 = m b 5) (hr : ∀ x j : Int, (x = 10 ∨ x = 11 ∨ 100 ≤ x) → x < 340 → m' (b' + x) j = m (b + x) j) (h : wfDay m b N) : wfDay m' b' N := by
  obtain ⟨v1, v2, v3, v4, v5, v6, v7, v8⟩ := h
  obtain ⟨h3, h4, h5⟩ := h0
  have e1 : ∀ c f : Int, 0 ≤ c → c < 16 → m' (b' + 100 + c) f = m (b + 100 + c) f := fun c f c1 c2 => by rw [Int.add_assoc, hr (100 + c) f (by omega) (by omega), ← Int.add_assoc]
  have e2 : ∀ r k : Int, 0 ≤ r → r < 6 → m' (b' + 200 + r) k = m (b + 200 + r) k := fun r k r1 r2 => by rw [Int.add_assoc, hr (200 + r) k (by omega) (by omega), ← Int.add_assoc]
  have e3 : ∀ r : Int, m' (b' + 10) r = m (b + 10) r ∧ m' (b' + 11) r = m (b + 11) r := fun r => ⟨hr 10 r (by omega) (by omega), hr 11 r (by omega) (by omega)⟩
  refine ⟨by rw [h3]; exact v1, by rw [h4]; exact v2, by rw [h5]; exact v3, fun r r1 r2 => ?_, fun c c1 c2 => ?_, fun r k r1 r2 k1 k2 => ?_, fun r k j r1 r2 k1 k2 j1 j2 q => ?_, fun c c1 c2 c3 => ?_⟩
  · rw [(e3 r).1, (e3 r).2, hC.1, (hC.2 r).2.1, (hC.2 r).2.2]; exact v4 r r1 r2
  · rw [h4] at c2
    have e : m' (b' + 100 + c) = m (b + 100 + c) := funext (fun f => e1 c f c1 (by omega))
    rw [e]
    have := v5 c c1 c2
    unfold wfCab at this ⊢
    rw [hC.1, h3, (hC.2 _).1]
    exact this
  · rw [(e3 r).1] at k2
    have g := v6 r k r1 r2 k1 k2
    rw [e2 r k r1 r2, h4, e1 _ 1 g.1.1 (by omega), e1 _ 3 g.1.1 (by omega)]
    exact g
  · rw [(e3 r).1] at k2 j2
    rw [e2 r k r1 r2, e2 r j r1 r2] at q
    exact v7 r k j r1 r2 k1 k2 j1 j2 q
  · rw [h4] at c2
    rw [e1 c 1 c1 (by omega)] at c3
    obtain ⟨k, k1, k2, k3⟩ := aw_ub (v8 c c1 c2 c3)
    have g := v5 c c1 c2
    have g3 := g.2.2.2.1 (Or.inr c3)
    rw [e1 c 3 c1 (by omega)]
    refine aw_mb ⟨k, k1, by rw [(e3 _).1]; exact k2, ?_⟩
    rw [e2 _ k (by omega) (by omega)]; exact k3
/-- the images, on both sides -/
def imC (σ : aw_S) (m : mS) : Prop := ∀ k : Int, 0 ≤ k → k ≤ 2 → (σ.1 50 k = m 16 k ∧ (m 16 k = 0 ∨ m 16 k = 1)) ∧ (m 16 k = 1 → dayC σ (imd k) (1000 * (k + 1)) m)
def imM (σ : aw_S) (m : mS) : Prop := ∀ k : Int, 0 ≤ k → k ≤ 2 → σ.1 192 k = m 16 k ∧ (m 16 k = 1 → dayMi σ k (1000 * (k + 1)) m)
def imW (m : mS) (N : Int) : Prop := ∀ k : Int, 0 ≤ k → k ≤ 2 → m 16 k = 1 → wfDay m (1000 * (k + 1)) N
/-- the class holds m; the reference does; m is sound -/
def KC (σ : aw_S) (t : Nat) (m : mS) : Prop := cityC σ t m ∧ dayC σ 21 0 m ∧ bookC σ m ∧ (chC σ m ∧ mmo σ m) ∧ imC σ m ∧ txC σ (m 12) (m 0 7)
def KM (σ : aw_S) (m : mS) : Prop := cityM σ m ∧ dayM σ m ∧ bookM σ m ∧ chM σ m ∧ imM σ m ∧ txM σ (m 12) (m 0 7)
def WF (m : mS) (N : Int) : Prop := wfCity m ∧ wfDay m 0 N ∧ wfBook m ∧ wfCh m ∧ imW m N ∧ wfTx (m 12) (m 0 7)
def INV (σ : aw_S) (N : Int) : Prop := ∃ (tw cs : Bool) (t a : Nat) (m : mS), (σ.2.2 = RF tw cs ∧ RF tw cs 0 1 = some t ∧ RF tw cs 1 2 = some a) ∧ KC σ t m ∧ KM σ m ∧ WF m N
/-- the cells that the class's picture rests on -/
def kpC (t b : Nat) (j : Int) : Prop := (t ≤ b ∧ b ≤ t + 7) ∨ (21 ≤ b ∧ b ≤ 48) ∨ (b = 64 ∧ j = 0) ∨ (65 ≤ b ∧ b ≤ 68) ∨ (70 ≤ b ∧ b ≤ 81) ∨ (52 ≤ b ∧ b ≤ 56) ∨ (b = 51 ∧ j = 5) ∨ b = 50 ∨ (87 ≤ b ∧ b ≤ 170) ∨ (b = 1 ∧ j = 1) ∨ b = 2
def kpM (b : Nat) (j : Int) : Prop := (b = 171 ∧ (j = 1 ∨ j = 14 ∨ j = 16 ∨ j = 20 ∨ j = 21 ∨ j = 22 ∨ j = 26 ∨ j = 30)) ∨ b = 172 ∨ (178 ≤ b ∧ b ≤ 200)
theorem cityC_kp {σ σ' : aw_S} {t : Nat} {m : mS} (h : ∀ (b : Nat) (j : Int), t ≤ b → b ≤ t + 7 → σ'.1 b j = σ.1 b j) (hC : cityC σ t m) : cityC σ' t m := by
  unfold cityC at hC ⊢
  simp only [fun j => h t j (by omega) (by omega), fun j => h (t + 1) j (by omega) (by omega), fun j => h (t + 2) j (by omega) (by omega), fun j => h (t + 3) j (by omega) (by omega), fun j => h (t + 4) j (by omega) (by omega), fun j => h (t + 5) j (by omega) (by omega), fun j => h (t + 6) j (by omega) (by omega), fun j => h (t + 7) j (by omega) (by omega)]
  exact hC
theorem cityM_kp {σ σ' : aw_S} {m : mS} (h : ∀ (b : Nat) (j : Int), kpM b j → σ'.1 b j = σ.1 b j) (hM : cityM σ m) : cityM σ' m := by
  unfold kpM at h
  unfold cityM at hM ⊢
  simp only [fun j => h 178 j (by omega), fun j => h 179 j (by omega), fun j => h 180 j (by omega), fun j => h 181 j (by omega), h 171 14 (by omega), h 171 16 (by omega), h 171 20 (by omega)]
  exact hM
theorem bookC_kp {σ σ' : aw_S} {m m' : mS} (w : wfBook m) (h : ∀ (b : Nat) (j : Int), (b = 64 ∧ j = 0) ∨ (65 ≤ b ∧ b ≤ 68) ∨ (70 ≤ b ∧ b ≤ 81) → σ'.1 b j = σ.1 b j) (hm : m' 0 6 = m 0 6 ∧ ∀ a j : Int, 400 ≤ a → a < 412 → m' a j = m a j) (hB : bookC σ m) : bookC σ' m' := by
  refine ⟨by rw [h 64 0 (by omega), hm.1]; exact hB.1, fun i i1 i2 => ?_⟩
  rw [hm.1] at i2
  have w12 := w.1
  have e : m' (400 + i) = m (400 + i) := funext (fun j => hm.2 _ j (by omega) (by omega))
  rw [e, h 65 i (by omega), h 66 i (by omega), h 67 i (by omega), h 68 i (by omega)]
  obtain ⟨b1, b2, b3, b4, b5⟩ := hB.2 i i1 i2
  exact ⟨b1, b2, b3, fun k k1 k2 => by rw [h _ k (by omega)]; exact b4 k k1 k2, b5⟩
theorem bookM_kp {σ σ' : aw_S} {m m' : mS} (w : wfBook m) (h : ∀ (b : Nat) (j : Int), (b = 171 ∧ j = 30) ∨ (188 ≤ b ∧ b ≤ 191) → σ'.1 b j = σ.1 b j) (hm : m' 0 6 = m 0 6 ∧ ∀ a j : Int, 400 ≤ a → a < 412 → m' a j = m a j) (hB : bookM σ m) : bookM σ' m' := by
  refine ⟨by rw [h 171 30 (by omega), hm.1]; exact hB.1, fun i i1 i2 => ?_⟩
  rw [hm.1] at i2
  have w12 := w.1
  have e : m' (400 + i) = m (400 + i) := funext (fun j => hm.2 _ j (by omega) (by omega))
  rw [e, h 188 i (by omega), h 189 i (by omega), h 190 i (by omega)]
  obtain ⟨b1, b2, b3, b4⟩ := hB.2 i i1 i2
  exact ⟨b1, b2, b3, fun k k1 k2 => by rw [h 191 _ (by omega)]; exact b4 k k1 k2⟩
theorem wfBook_kp {m m' : mS} (w : wfBook m) (h0 : m' 0 0 = m 0 0) (hm : m' 0 6 = m 0 6 ∧ ∀ a j : Int, 400 ≤ a → a < 412 → m' a j = m a j) : wfBook m' := by
  have w12 := w.1
  refine ⟨by rw [hm.1]; exact w.1, fun i i1 i2 => ?_⟩
  rw [hm.1] at i2
  have e : m' (400 + i) = m (400 + i) := funext (fun j => hm.2 _ j (by omega) (by omega))
  rw [e, h0]
  exact w.2 i i1 i2
theorem chC_kp {σ σ' : aw_S} {m m' : mS} (h : ∀ (b : Nat) (j : Int), 52 ≤ b → b ≤ 54 → σ'.1 b j = σ.1 b j) (hm : ∀ a j : Int, 13 ≤ a → a ≤ 15 → m' a j = m a j) (hC : chC σ m) : chC σ' m' := fun r r1 r2 => by
  rw [h 52 r (by omega) (by omega), h 53 r (by omega) (by omega), h 54 r (by omega) (by omega), hm 13 r (by omega) (by omega), hm 14 r (by omega) (by omega), hm 15 r (by omega) (by omega)]
  exact hC r r1 r2
theorem chM_kp {σ σ' : aw_S} {m m' : mS} (h : ∀ j : Int, σ'.1 187 j = σ.1 187 j) (hm : ∀ a j : Int, 13 ≤ a → a ≤ 15 → m' a j = m a j) (hC : chM σ m) : chM σ' m' := fun r r1 r2 => by
  rw [h, h, h, hm 13 r (by omega) (by omega), hm 14 r (by omega) (by omega), hm 15 r (by omega) (by omega)]
  exact hC r r1 r2
theorem wfCh_kp {m m' : mS} (w : wfCh m) (h0 : m' 0 0 = m 0 0) (hm : ∀ a j : Int, 13 ≤ a → a ≤ 15 → m' a j = m a j) : wfCh m' := fun r r1 r2 => by
  rw [hm 13 r (by omega) (by omega), hm 14 r (by omega) (by omega), hm 15 r (by omega) (by omega), h0]
  exact w r r1 r2
/-- worths rest on the city and the chances -/
theorem W_m {m m' : mS} (h0 : m' 0 0 = m 0 0 ∧ m' 0 2 = m 0 2) (h1 : m' 1 = m 1) (h8 : m' 8 = m 8) (h13 : m' 13 = m 13 ∧ m' 14 = m 14 ∧ m' 15 = m 15) (ah : Int → Int) : wW m' ah = wW m ah := by
  have hw : ∀ (t : wT) (p : Int) (l : Nat) (r : Int), wfrom m' ah t p l r = wfrom m ah t p l r := fun t p l r => by unfold wfrom; rw [h1]
  have hg : ∀ (t : wT) (p : Int) (l : Nat) (k : Nat), gbest m' ah t p l k = gbest m ah t p l k := by
    intro t p l k
    induction k with
    | zero => rfl
    | succ k ih =>
      unfold gbest
      rw [ih, hw]
  have hv : ∀ (t : wT) (p : Int) (l : Nat), gval m' ah t p l = gval m ah t p l := fun t p l => by unfold gval; rw [hg, h0.1]
  have hp : ∀ a b : Int, mprice m' a b = mprice m a b := fun a b => by unfold mprice; rw [h8, h0.2]
  have hf : ∀ f : Nat, Wf m' ah f = Wf m ah f := by
    intro f
    induction f with
    | zero => rfl
    | succ f ih =>
      funext l r n
      show layer m' ah (Wf m' ah f) l r n = layer m ah (Wf m ah f) l r n
      rw [ih]
      unfold layer fbrg
      rw [hv, hp, h13.1, h13.2.1, h13.2.2, h1]
  funext l r n
  exact congrFun (congrFun (congrFun (hf (l + 1)) l) r) n
theorem mmo_kp {σ σ' : aw_S} {m m' : mS} (h : ∀ (b : Nat) (j : Int), (b = 51 ∧ j = 5) ∨ b = 55 ∨ b = 56 → σ'.1 b j = σ.1 b j) (h0 : m' 0 0 = m 0 0 ∧ m' 0 2 = m 0 2) (h1 : m' 1 = m 1) (h8 : m' 8 = m 8) (h13 : m' 13 = m 13 ∧ m' 14 = m 14 ∧ m' 15 = m 15) (hM : mmo σ m) : mmo σ' m' := by
  have e55 : σ'.1 55 = σ.1 55 := funext (fun j => h 55 j (by omega))
  obtain ⟨F, a1, a2, a3⟩ := aw_ub hM.1
  refine ⟨aw_mb ⟨F, a1, by rw [h 51 5 (by omega)]; exact a2, fun k r n k1 r1 r2 n1 n2 => ?_⟩, fun r r1 r2 => ?_⟩
  · rw [h0.1] at r2
    rw [h 56 _ (by omega), e55, W_m h0 h1 h8 h13]
    exact a3 k r n k1 r1 r2 n1 n2
  · rw [e55]
    exact hM.2 r r1 r2
theorem imC_kp {σ σ' : aw_S} {m m' : mS} {N : Int} (w : imW m N) (h : ∀ (b : Nat) (j : Int), b = 50 ∨ (87 ≤ b ∧ b ≤ 170) → σ'.1 b j = σ.1 b j) (hm : ∀ a j : Int, a = 16 ∨ 1000 ≤ a → m' a j = m a j) (hI : imC σ m) : imC σ' m' := fun k k1 k2 => by
  obtain ⟨i1, i2⟩ := hI k k1 k2
  have e16 := hm 16 k (by omega)
  refine ⟨by rw [h 50 k (by omega), e16]; exact i1, fun z => ?_⟩
  rw [e16] at z
  refine dayC_tr (w k k1 k2 z) (fun b j q1 q2 => h b j ?_) ⟨hm _ _ (by omega), hm _ _ (by omega), hm _ _ (by omega)⟩ (fun x j x1 x2 => hm _ _ (by omega)) (i2 z)
  unfold imd at q1 q2
  omega
theorem imM_kp {σ σ' : aw_S} {m m' : mS} {N : Int} (w : imW m N) (h : ∀ (b : Nat) (j : Int), 192 ≤ b → b ≤ 200 → σ'.1 b j = σ.1 b j) (hm : ∀ a j : Int, a = 16 ∨ 1000 ≤ a → m' a j = m a j) (hI : imM σ m) : imM σ' m' := fun k k1 k2 => by
  obtain ⟨i1, i2⟩ := hI k k1 k2
  have e16 := hm 16 k (by omega)
  refine ⟨by rw [h 192 k (by omega) (by omega), e16]; exact i1, fun z => ?_⟩
  rw [e16] at z
  exact dayG_tr (w k k1 k2 z) ⟨h _ _ (by omega) (by omega), h _ _ (by omega) (by omega), h _ _ (by omega) (by omega)⟩ (fun j _ _ => h _ _ (by omega) (by omega)) (fun j _ _ => h _ _ (by omega) (by omega)) (fun j _ _ => h _ _ (by omega) (by omega)) (fun j _ _ => h _ _ (by omega) (by omega)) (fun j _ _ => h _ _ (by omega) (by omega)) ⟨hm _ _ (by omega), hm _ _ (by omega), hm _ _ (by omega)⟩ (fun x j x1 x2 => hm _ _ (by omega)) (i2 z)
theorem imW_kp {m m' : mS} {N : Int} (h6 : m 0 0 ≤ 6) (w : imW m N) (hC : m' 0 0 = m 0 0 ∧ (∀ r : Int, m' 1 r = m 1 r ∧ m' 2 r = m 2 r ∧ m' 3 r = m 3 r)) (hm : ∀ a j : Int, a = 16 ∨ 1000 ≤ a → m' a j = m a j) : imW m' N := fun k k1 k2 z => by
  rw [hm 16 k (by omega)] at z
  exact wfDay_tr h6 hC ⟨hm _ _ (by omega), hm _ _ (by omega), hm _ _ (by omega)⟩ (fun x j x1 x2 => hm _ _ (by omega)) (w k k1 k2 z)
theorem WF_mono {m : mS} {N N' : Int} (h : N ≤ N') (w : WF m N) : WF m N' := ⟨w.1, wfDay_mono h w.2.1, w.2.2.1, w.2.2.2.1, fun k k1 k2 z => wfDay_mono h (w.2.2.2.2.1 k k1 k2 z), w.2.2.2.2.2⟩
/-- a state that agrees where the picture rests -/
theorem KC_kp {σ σ' : aw_S} {t : Nat} {m : mS} {N : Int} (w : WF m N) (h : ∀ (b : Nat) (j : Int), kpC t b j → σ'.1 b j = σ.1 b j) (hK : KC σ t m) : KC σ' t m := by
  unfold kpC at h
  obtain ⟨k1, k2, k3, ⟨k4, k5⟩, k6, k7⟩ := hK
  exact ⟨cityC_kp (fun b j q1 q2 => h b j (by omega)) k1, dayC_tr w.2.1 (fun b j q1 q2 => h b j (by omega)) ⟨rfl, rfl, rfl⟩ (fun _ _ _ _ => rfl) k2, bookC_kp w.2.2.1 (fun b j q => h b j (by omega)) ⟨rfl, fun _ _ _ _ => rfl⟩ k3, ⟨chC_kp (fun b j q1 q2 => h b j (by omega)) (fun _ _ _ _ => rfl) k4, mmo_kp (fun b j q => h b j (by omega)) ⟨rfl, rfl⟩ rfl rfl ⟨rfl, rfl, rfl⟩ k5⟩, imC_kp w.2.2.2.2.1 (fun b j q => h b j (by omega)) (fun _ _ _ => rfl) k6, ⟨(h 1 1 (by omega)).trans k7.1, fun i i1 i2 => (h 2 i (by omega)).trans (k7.2 i i1 i2)⟩⟩
theorem KM_kp {σ σ' : aw_S} {m : mS} {N : Int} (w : WF m N) (h : ∀ (b : Nat) (j : Int), kpM b j → σ'.1 b j = σ.1 b j) (hK : KM σ m) : KM σ' m := by
  have h' := h
  unfold kpM at h
  obtain ⟨k1, k2, k3, k4, k6, k7⟩ := hK
  exact ⟨cityM_kp h' k1, dayG_tr w.2.1 ⟨h _ _ (by omega), h _ _ (by omega), h _ _ (by omega)⟩ (fun j _ _ => h _ _ (by omega)) (fun j _ _ => h _ _ (by omega)) (fun j _ _ => h _ _ (by omega)) (fun j _ _ => h _ _ (by omega)) (fun j _ _ => h _ _ (by omega)) ⟨rfl, rfl, rfl⟩ (fun _ _ _ _ => rfl) k2, bookM_kp w.2.2.1 (fun b j q => h b j (by omega)) ⟨rfl, fun _ _ _ _ => rfl⟩ k3, chM_kp (fun j => h _ _ (by omega)) (fun _ _ _ _ => rfl) k4, imM_kp w.2.2.2.2.1 (fun b j q1 q2 => h b j (by omega)) (fun _ _ _ => rfl) k6, ⟨(h 171 1 (by omega)).trans k7.1, fun i i1 i2 => (h 172 i (by omega)).trans (k7.2 i i1 i2)⟩⟩
/-- a step on the day -/
theorem KC_day {σ σ' : aw_S} {t : Nat} {m m' : mS} {N : Int} (ht : isCity t) (w : WF m N) (f : frm m m') (h : ∀ (b : Nat) (j : Int), ¬ (21 ≤ b ∧ b ≤ 48) → kpC t b j → σ'.1 b j = σ.1 b j) (hD : dayC σ' 21 0 m') (hK : KC σ t m) : KC σ' t m' := by
  unfold kpC at h
  have h13 : t = 3 ∨ t = 13 := ht
  obtain ⟨k1, k2, k3, ⟨k4, k5⟩, k6, k7⟩ := hK
  refine ⟨cityC_m f (cityC_kp (fun b j q1 q2 => h b j (by omega) (by omega)) k1), hD, bookC_kp w.2.2.1 (fun b j q => h b j (by omega) (by omega)) ⟨f 0 6 (by omega) (by omega) (by omega), fun a j q1 q2 => f a j (by omega) (by omega) (by omega)⟩ k3, ⟨chC_kp (fun b j q1 q2 => h b j (by omega) (by omega)) (fun a j q1 q2 => f a j (by omega) (by omega) (by omega)) k4, mmo_kp (fun b j q => h b j (by omega) (by omega)) ⟨f 0 0 (by omega) (by omega) (by omega), f 0 2 (by omega) (by omega) (by omega)⟩ (funext fun j => f 1 j (by omega) (by omega) (by omega)) (funext fun j => f 8 j (by omega) (by omega) (by omega)) ⟨funext fun j => f 13 j (by omega) (by omega) (by omega), funext fun j => f 14 j (by omega) (by omega) (by omega), funext fun j => f 15 j (by omega) (by omega) (by omega)⟩ k5⟩, imC_kp w.2.2.2.2.1 (fun b j q => h b j (by omega) (by omega)) (fun a j q => f a j (by omega) (by omega) (by omega)) k6, ?_⟩
  rw [f 0 7 (by omega) (by omega) (by omega), show m' 12 = m 12 from funext fun j => f 12 j (by omega) (by omega) (by omega)]
  exact ⟨(h 1 1 (by omega) (by omega)).trans k7.1, fun i i1 i2 => (h 2 i (by omega) (by omega)).trans (k7.2 i i1 i2)⟩
theorem KM_day {σ σ' : aw_S} {m m' : mS} {N : Int} (w : WF m N) (f : frm m m') (h : ∀ (b : Nat) (j : Int), ¬ (182 ≤ b ∧ b ≤ 186) → ¬ (b = 171 ∧ (j = 21 ∨ j = 22 ∨ j = 26)) → kpM b j → σ'.1 b j = σ.1 b j) (hD : dayM σ' m') (hK : KM σ m) : KM σ' m' := by
  unfold kpM at h
  obtain ⟨k1, k2, k3, k4, k6, k7⟩ := hK
  refine ⟨?_, hD, bookM_kp w.2.2.1 (fun b j q => h b j (by omega) (by omega) (by omega)) ⟨f 0 6 (by omega) (by omega) (by omega), fun a j q1 q2 => f a j (by omega) (by omega) (by omega)⟩ k3, chM_kp (fun j => h _ _ (by omega) (by omega) (by omega)) (fun a j q1 q2 => f a j (by omega) (by omega) (by omega)) k4, imM_kp w.2.2.2.2.1 (fun b j q1 q2 => h b j (by omega) (by omega) (by omega)) (fun a j q => f a j (by omega) (by omega) (by omega)) k6, ?_⟩
  · refine cityM_m f ?_
    unfold cityM at k1 ⊢
    simp only [fun j => h 178 j (by omega) (by omega) (by omega), fun j => h 179 j (by omega) (by omega) (by omega), fun j => h 180 j (by omega) (by omega) (by omega), fun j => h 181 j (by omega) (by omega) (by omega), h 171 14 (by omega) (by omega) (by omega), h 171 16 (by omega) (by omega) (by omega), h 171 20 (by omega) (by omega) (by omega)]
    exact k1
  · rw [f 0 7 (by omega) (by omega) (by omega), show m' 12 = m 12 from funext fun j => f 12 j (by omega) (by omega) (by omega)]
    exact ⟨(h 171 1 (by omega) (by omega) (by omega)).trans k7.1, fun i i1 i2 => (h 172 i (by omega) (by omega) (by omega)).trans (k7.2 i i1 i2)⟩
theorem WF_day {m m' : mS} {N : Int} (w : WF m N) (f : frm m m') (hD : wfDay m' 0 (N + 1)) : WF m' (N + 1) := by
  obtain ⟨w1, w2, w3, w4, w5, w6⟩ := w
  refine ⟨wfCity_fr f w1, hD, wfBook_kp w3 (f 0 0 (by omega) (by omega) (by omega)) ⟨f 0 6 (by omega) (by omega) (by omega), fun a j q1 q2 => f a j (by omega) (by omega) (by omega)⟩, wfCh_kp w4 (f 0 0 (by omega) (by omega) (by omega)) (fun a j q1 q2 => f a j (by omega) (by omega) (by omega)), fun k k1 k2 z => wfDay_mono (by omega) (imW_kp w1.1.2 w5 ⟨f 0 0 (by omega) (by omega) (by omega), fun r => ⟨f 1 r (by omega) (by omega) (by omega), f 2 r (by omega) (by omega) (by omega), f 3 r (by omega) (by omega) (by omega)⟩⟩ (fun a j q => f a j (by omega) (by omega) (by omega)) k k1 k2 z), ?_⟩
  rw [f 0 7 (by omega) (by omega) (by omega), show m' 12 = m 12 from funext fun j => f 12 j (by omega) (by omega) (by omega)]
  exact w6
