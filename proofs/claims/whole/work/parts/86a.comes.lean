/-! the model: which sorts unit rules lead to (array 18), endless many -/
def cm (μ : Nat → Nat → Int32) (x y : Nat) : Prop := μ 18 (6 * x + y) ≠ 0
theorem q_comes0 {N : Nat} (μ0 : Nat → Nat → Int32) (kx : (Nat → Nat → Int32) → Option (Nat → Nat → Int32)) : ∀ (d k n : Nat) (μ : Nat → Nat → Int32), k + d = 36 → d < n → (∀ b, b ≠ 18 → μ b = μ0 b) → (∀ z, z < k → μ 18 z = 0) → ∃ μ', (∀ b, b ≠ 18 → μ' b = μ0 b) ∧ (∀ z, z < 36 → μ' 18 z = 0) ∧ l_Md_findComes_2 N kx n μ (nI k) = kx μ' := by
  intro d
  induction d with
  | zero =>
    intro k n μ hk hn h1 h2
    obtain ⟨n, rfl⟩ : ∃ m, n = m + 1 := ⟨n - 1, by omega⟩
    have : k = 36 := by omega
    subst this
    refine ⟨μ, h1, h2, ?_⟩
    unfold l_Md_findComes_2 f_Md_findComes_2
    rw [l_36, if_pos (nI_le (Nat.le_refl _) (by omega))]
  | succ d ih =>
    intro k n μ hk hn h1 h2
    obtain ⟨n, rfl⟩ : ∃ m, n = m + 1 := ⟨n - 1, by omega⟩
    obtain ⟨μ', g1, g2, g3⟩ := ih (k + 1) n (st2 μ 18 k 0) (by omega) (by omega) (fun b hb => by rw [st2_a _ _ _ hb]; exact h1 b hb) (fun z hz => by
      by_cases e : z = k
      · subst e; exact st2_s _ _ _ _
      · rw [st2_k _ _ _ e]; exact h2 z (by omega))
    refine ⟨μ', g1, g2, ?_⟩
    unfold l_Md_findComes_2 f_Md_findComes_2
    rw [l_36, if_neg (nI_ge (by omega) (by omega)), ck_n (by omega) (by omega), nm_d, nI_clamp (by omega), nm_d, nI_1]
    exact g3
/-- a unit rule's variable, in the model -/
theorem q_unit {μ : Nat → Nat → Int32} {G : Gm} (h : MdG μ G) {r : Nat} (hr : r < gR G) (hu : isU G r) : ∃ v, v < gV G ∧ μ 4 (8 * r) = vS v ∧ μ 1 v = nI (uS G r) := by
  obtain ⟨x, hx, e⟩ := hu
  have h4 := (h.2.2.2.2.2 r hr).2.2.2.2 0 (by rw [e]; simp)
  rw [Nat.add_zero] at h4
  have eg : (gry G r).getD 0 0 = x := by rw [e]; rfl
  rw [eg] at h4
  rcases (h.1.2.2.2.2 r hr).2.2.2.1 x (by rw [e]; simp) with ⟨c, hc, ec⟩ | ⟨v, hv, ev⟩
  · rw [ec] at hx
    exact absurd hx (nI_pos (by omega))
  · have := h.1.2.1
    refine ⟨v, hv, by rw [h4, ev], ?_⟩
    rw [h.2.2.2.2.1 v hv]
    unfold uS sX
    rw [e, ev]
    show _ = nI (gvs G (vI (vS v)))
    rw [vI_vS (by omega)]
theorem q_comes1 {N : Nat} {G : Gm} (μ0 : Nat → Nat → Int32) (hG : MdG μ0 G) (kx : (Nat → Nat → Int32) → Option (Nat → Nat → Int32)) : ∀ (d r n : Nat) (μ : Nat → Nat → Int32), r + d = gR G → d < n → (∀ b, b ≠ 18 → μ b = μ0 b) → (∀ x y, x < 6 → y < 6 → (cm μ x y ↔ ∃ q, q < r ∧ isU G q ∧ grs G q = x ∧ uS G q = y)) → ∃ μ', (∀ b, b ≠ 18 → μ' b = μ0 b) ∧ (∀ x y, x < 6 → y < 6 → (cm μ' x y ↔ ∃ q, q < gR G ∧ isU G q ∧ grs G q = x ∧ uS G q = y)) ∧ l_Md_findComes_23 N kx n μ (nI r) = kx μ' := by
  have hR := hG.1.2.2.1
  have hV := hG.1.2.1
  have hS := hG.1.1
  intro d
  induction d with
  | zero =>
    intro r n μ hr hn h1 h2
    obtain ⟨n, rfl⟩ : ∃ m, n = m + 1 := ⟨n - 1, by omega⟩
    have : r = gR G := by omega
    subst this
    refine ⟨μ, h1, h2, ?_⟩
    unfold l_Md_findComes_23 f_Md_findComes_23
    rw [h1 0 (by decide), hG.2.2.2.1, if_pos (nI_le (Nat.le_refl _) (by omega))]
  | succ d ih =>
    intro r n μ hr hn h1 h2
    obtain ⟨n, rfl⟩ : ∃ m, n = m + 1 := ⟨n - 1, by omega⟩
    have hrR : r < gR G := by omega
    have hGμ : MdG μ G := hG.fq (fun k _ => by rw [h1 0 (by decide)]) (fun b hb => h1 b (by omega))
    obtain ⟨X, hX⟩ : ∃ X, X = l_Md_findComes_23 N kx (n + 1) μ (nI r) := ⟨_, rfl⟩
    rw [← hX]
    have step : X = f_Md_findComes_23 N (l_Md_findComes_23 N kx n) kx μ (nI r) := hX
    unfold f_Md_findComes_23 at step
    rw [h1 0 (by decide), hG.2.2.2.1, if_neg (nI_ge hrR (by omega))] at step
    rcases q_isPlain hGμ hrR with ⟨hu, e⟩ | ⟨hu, e⟩
    · obtain ⟨v, hv, e4, e1⟩ := q_unit hGμ hrR hu
      have hrs := (hG.1.2.2.2.2 r hrR).1
      have hus := uS_lt hG.1 hrR hu
      rw [e, b1_some, if_neg (by decide), ck_n (by omega) (by omega), l_8, pk_mul, ck_n (by omega) (by omega), nI_clamp (show 8 * r < 2 ^ 31 by omega), e4, vS_back (by omega), ck_n (by omega) (by omega), nI_clamp (show r < 2 ^ 31 by omega), nI_clamp (show v < 2 ^ 31 by omega), e1, (hGμ.2.2.2.2.2 r hrR).1, l_6, pk_mul, nI_add, ck_n (by omega) (by omega), nm_d, nI_clamp (by omega), nm_d, nI_1] at step
      obtain ⟨μ', g1, g2, g3⟩ := ih (r + 1) n (st2 μ 18 (6 * grs G r + uS G r) 1) (by omega) (by omega) (fun b hb => by rw [st2_a _ _ _ hb]; exact h1 b hb) (fun x y hx hy => by
        unfold cm
        by_cases q : 6 * x + y = 6 * grs G r + uS G r
        · rw [q, st2_s]
          constructor
          · intro _
            exact ⟨r, by omega, hu, by omega, by omega⟩
          · intro _
            decide
        · rw [st2_k _ _ _ q]
          have := h2 x y hx hy
          unfold cm at this
          rw [this]
          constructor
          · rintro ⟨z, z1, z2⟩
            exact ⟨z, by omega, z2⟩
          · rintro ⟨z, z1, z2, z3, z4⟩
            by_cases ez : z = r
            · subst ez
              exact absurd (by rw [z3, z4]) q
            · exact ⟨z, by omega, z2, z3, z4⟩)
      exact ⟨μ', g1, g2, by rw [step]; exact g3⟩
    · rw [e, b1_some, if_pos rfl, nm_d, nI_1] at step
      obtain ⟨μ', g1, g2, g3⟩ := ih (r + 1) n μ (by omega) (by omega) h1 (fun x y hx hy => by
        rw [h2 x y hx hy]
        constructor
        · rintro ⟨z, z1, z2⟩
          exact ⟨z, by omega, z2⟩
        · rintro ⟨z, z1, z2, z3⟩
          by_cases ez : z = r
          · subst ez
            exact absurd z2 hu
          · exact ⟨z, by omega, z2, z3⟩)
      exact ⟨μ', g1, g2, by rw [step]; exact g3⟩
/-- one stage: through c, for the pairs before (x, y) -/
def Wg (μ : Nat → Nat → Int32) (R : Nat → Nat → Prop) (n c x y : Nat) : Prop := ∀ p q, p < n → q < n → (cm μ p q ↔ if p < x ∨ (p = x ∧ q < y) then R p q ∨ (R p c ∧ R c q) else R p q)
theorem q_comes99 {N : Nat} {n c x : Nat} {R : Nat → Nat → Prop} (hn : n ≤ 6) (hc : c < n) (hx : x < n) (μ0 : Nat → Nat → Int32) (h01 : μ0 0 1 = nI n) (kx : (Nat → Nat → Int32) → Option (Nat → Nat → Int32)) : ∀ (d y f : Nat) (μ : Nat → Nat → Int32), y + d = n → d < f → (∀ b, b ≠ 18 → μ b = μ0 b) → Wg μ R n c x y → ∃ μ', (∀ b, b ≠ 18 → μ' b = μ0 b) ∧ Wg μ' R n c x n ∧ l_Md_findComes_99 N (nI c) (nI x) kx f μ (nI y) = kx μ' := by
  intro d
  induction d with
  | zero =>
    intro y f μ hy hf h1 h2
    obtain ⟨f, rfl⟩ : ∃ m, f = m + 1 := ⟨f - 1, by omega⟩
    have : y = n := by omega
    subst this
    refine ⟨μ, h1, h2, ?_⟩
    unfold l_Md_findComes_99 f_Md_findComes_99
    rw [h1 0 (by decide), h01, if_pos (nI_le (Nat.le_refl _) (by omega))]
  | succ d ih =>
    intro y f μ hy hf h1 h2
    obtain ⟨f, rfl⟩ : ∃ m, f = m + 1 := ⟨f - 1, by omega⟩
    have hyn : y < n := by omega
    have e1 : cm μ x y ↔ R x y := by
      rw [h2 x y hx hyn, if_neg (by omega)]
    have e2 : cm μ x c ↔ R x c := by
      rw [h2 x c hx hc]
      by_cases q : x < x ∨ (x = x ∧ c < y)
      · rw [if_pos q]
        constructor
        · rintro (h | h)
          · exact h
          · exact h.1
        · exact fun h => Or.inl h
      · rw [if_neg q]
    have e3 : cm μ c y ↔ R c y := by
      rw [h2 c y hc hyn]
      by_cases q : c < x ∨ (c = x ∧ y < y)
      · rw [if_pos q]
        constructor
        · rintro (h | h)
          · exact h
          · exact h.2
        · exact fun h => Or.inl h
      · rw [if_neg q]
    obtain ⟨X, hX⟩ : ∃ X, X = l_Md_findComes_99 N (nI c) (nI x) kx (f + 1) μ (nI y) := ⟨_, rfl⟩
    rw [← hX]
    have step : X = f_Md_findComes_99 N (l_Md_findComes_99 N (nI c) (nI x) kx f) kx μ (nI c) (nI x) (nI y) := hX
    unfold f_Md_findComes_99 at step
    rw [h1 0 (by decide), h01, if_neg (nI_ge hyn (by omega)), l_6, pk_mul, pk_mul, nI_add, nI_add, nI_add] at step
    rw [nI_clamp (show 6 * x + y < 2 ^ 31 by omega), nI_clamp (show 6 * x + c < 2 ^ 31 by omega), nI_clamp (show 6 * c + y < 2 ^ 31 by omega)] at step
    simp (disch := omega) only [ck_n, nm_x, nI_1] at step
    -- what is written
    have fin : ∀ w : Int32, (w ≠ 0 ↔ (R x y ∨ (R x c ∧ R c y))) → X = l_Md_findComes_99 N (nI c) (nI x) kx f (st2 μ 18 (6 * x + y) w) (nI (y + 1)) → ∃ μ', (∀ b, b ≠ 18 → μ' b = μ0 b) ∧ Wg μ' R n c x n ∧ X = kx μ' := by
      intro w hw he
      obtain ⟨μ', g1, g2, g3⟩ := ih (y + 1) f (st2 μ 18 (6 * x + y) w) (by omega) (by omega) (fun b hb => by rw [st2_a _ _ _ hb]; exact h1 b hb) (fun p q hp hq => by
        unfold cm
        by_cases e : 6 * p + q = 6 * x + y
        · have ep : p = x := by omega
          have eq : q = y := by omega
          subst ep
          subst eq
          rw [st2_s, if_pos (by omega)]
          exact hw
        · rw [st2_k _ _ _ e]
          have := h2 p q hp hq
          unfold cm at this
          rw [this]
          by_cases q1 : p < x ∨ (p = x ∧ q < y)
          · rw [if_pos q1, if_pos (by omega)]
          · rw [if_neg q1, if_neg (by omega)])
      exact ⟨μ', g1, g2, by rw [he]; exact g3⟩
    by_cases c1 : μ 18 (6 * x + y) = 0
    · rw [if_pos c1] at step
      have n1 : ¬ R x y := fun h => (e1.mpr h) c1
      by_cases c2 : μ 18 (6 * x + c) = 0
      · rw [if_pos c2] at step
        have n2 : ¬ R x c := fun h => (e2.mpr h) c2
        refine fin 0 ⟨fun h => absurd rfl h, ?_⟩ step
        rintro (h | h)
        · exact absurd h n1
        · exact absurd h.1 n2
      · rw [if_neg c2] at step
        have p2 : R x c := e2.mp c2
        by_cases c3 : μ 18 (6 * c + y) = 0
        · rw [if_pos c3] at step
          have n3 : ¬ R c y := fun h => (e3.mpr h) c3
          refine fin 0 ⟨fun h => absurd rfl h, ?_⟩ step
          rintro (h | h)
          · exact absurd h n1
          · exact absurd h.2 n3
        · rw [if_neg c3] at step
          exact fin 1 ⟨fun _ => Or.inr ⟨p2, e3.mp c3⟩, fun _ => by decide⟩ step
    · rw [if_neg c1] at step
      exact fin 1 ⟨fun _ => Or.inl (e1.mp c1), fun _ => by decide⟩ step
theorem q_comes89 {N : Nat} (hN : 7 ≤ N) {n c : Nat} {R : Nat → Nat → Prop} (hn : n ≤ 6) (hc : c < n) (μ0 : Nat → Nat → Int32) (h01 : μ0 0 1 = nI n) (kx : (Nat → Nat → Int32) → Option (Nat → Nat → Int32)) : ∀ (d x f : Nat) (μ : Nat → Nat → Int32), x + d = n → d < f → (∀ b, b ≠ 18 → μ b = μ0 b) → Wg μ R n c x 0 → ∃ μ', (∀ b, b ≠ 18 → μ' b = μ0 b) ∧ Wg μ' R n c n 0 ∧ l_Md_findComes_89 N (nI c) kx f μ (nI x) = kx μ' := by
  intro d
  induction d with
  | zero =>
    intro x f μ hx hf h1 h2
    obtain ⟨f, rfl⟩ : ∃ m, f = m + 1 := ⟨f - 1, by omega⟩
    have : x = n := by omega
    subst this
    refine ⟨μ, h1, h2, ?_⟩
    unfold l_Md_findComes_89 f_Md_findComes_89
    rw [h1 0 (by decide), h01, if_pos (nI_le (Nat.le_refl _) (by omega))]
  | succ d ih =>
    intro x f μ hx hf h1 h2
    obtain ⟨f, rfl⟩ : ∃ m, f = m + 1 := ⟨f - 1, by omega⟩
    obtain ⟨μ1, a1, a2, a3⟩ := q_comes99 (N := N) (R := R) hn hc (show x < n by omega) μ0 h01 (fun s_self => f_Md_findComes_171 N (l_Md_findComes_89 N (nI c) kx f) kx s_self (nI c) (nI x)) n 0 N μ (by omega) (by omega) h1 h2
    obtain ⟨μ', b1, b2, b3⟩ := ih (x + 1) f μ1 (by omega) (by omega) a1 (fun p q hp hq => by
      rw [a2 p q hp hq]
      by_cases e : p < x ∨ (p = x ∧ q < n)
      · rw [if_pos e, if_pos (by omega)]
      · rw [if_neg e, if_neg (by omega)])
    refine ⟨μ', b1, b2, ?_⟩
    unfold l_Md_findComes_89 f_Md_findComes_89
    rw [h1 0 (by decide), h01, if_neg (nI_ge (by omega) (by omega)), ← nI_0, a3]
    unfold f_Md_findComes_171
    rw [nm_d, nI_1]
    exact b3
theorem q_comes79 {N : Nat} (hN : 7 ≤ N) {n : Nat} {Pt0 : Nat → Nat → Prop} (hn : n ≤ 6) (μ0 : Nat → Nat → Int32) (h01 : μ0 0 1 = nI n) (htr : ∀ x y z, Pt0 x y → Pt0 y z → Pt0 x z) (E : Nat → Nat → Prop) (kx : (Nat → Nat → Int32) → Option (Nat → Nat → Int32)) : ∀ (d c f : Nat) (μ : Nat → Nat → Int32), c + d = n → d < f → (∀ b, b ≠ 18 → μ b = μ0 b) → (∀ x y, x < n → y < n → cm μ x y → Pt0 x y) → (∀ x y, x < n → y < n → E x y → cm μ x y) → (∀ x y z, x < n → y < n → z < c → cm μ x z → cm μ z y → cm μ x y) → ∃ μ', (∀ b, b ≠ 18 → μ' b = μ0 b) ∧ (∀ x y, x < n → y < n → cm μ' x y → Pt0 x y) ∧ (∀ x y, x < n → y < n → E x y → cm μ' x y) ∧ (∀ x y z, x < n → y < n → z < n → cm μ' x z → cm μ' z y → cm μ' x y) ∧ l_Md_findComes_79 N kx f μ (nI c) = kx μ' := by
  intro d
  induction d with
  | zero =>
    intro c f μ hc hf h1 h2 h3 h4
    obtain ⟨f, rfl⟩ : ∃ m, f = m + 1 := ⟨f - 1, by omega⟩
    have : c = n := by omega
    subst this
    refine ⟨μ, h1, h2, h3, h4, ?_⟩
    unfold l_Md_findComes_79 f_Md_findComes_79
    rw [h1 0 (by decide), h01, if_pos (nI_le (Nat.le_refl _) (by omega))]
  | succ d ih =>
    intro c f μ hc hf h1 h2 h3 h4
    obtain ⟨f, rfl⟩ : ∃ m, f = m + 1 := ⟨f - 1, by omega⟩
    have hcn : c < n := by omega
    obtain ⟨μ1, a1, a2, a3⟩ := q_comes89 (N := N) (R := cm μ) hN hn hcn μ0 h01 (fun s_self => f_Md_findComes_177 N (l_Md_findComes_79 N kx f) kx s_self (nI c)) n 0 N μ (by omega) (by omega) h1 (fun p q hp hq => by rw [if_neg (by omega)])
    have key : ∀ p q, p < n → q < n → (cm μ1 p q ↔ cm μ p q ∨ (cm μ p c ∧ cm μ c q)) := fun p q hp hq => by
      rw [a2 p q hp hq, if_pos (by omega)]
    obtain ⟨μ', b1, b2, b3, b4, b5⟩ := ih (c + 1) f μ1 (by omega) (by omega) a1 (fun x y hx hy h => by
        rcases (key x y hx hy).mp h with h | ⟨h, h'⟩
        · exact h2 x y hx hy h
        · exact htr x c y (h2 x c hx hcn h) (h2 c y hcn hy h')) (fun x y hx hy h => (key x y hx hy).mpr (Or.inl (h3 x y hx hy h))) (fun x y z hx hy hz h h' => by
        have hzn : z < n := by omega
        rw [key x z hx hzn] at h
        rw [key z y hzn hy] at h'
        rw [key x y hx hy]
        by_cases ez : z = c
        · subst ez
          have p1 : cm μ x z := by
            rcases h with h | h
            · exact h
            · exact h.1
          have p2 : cm μ z y := by
            rcases h' with h' | h'
            · exact h'
            · exact h'.2
          exact Or.inr ⟨p1, p2⟩
        · have hzc : z < c := by omega
          rcases h with h | ⟨ha, hb⟩
          · rcases h' with h' | ⟨hc', hd'⟩
            · exact Or.inl (h4 x y z hx hy hzc h h')
            · exact Or.inr ⟨h4 x c z hx hcn hzc h hc', hd'⟩
          · rcases h' with h' | ⟨hc', hd'⟩
            · exact Or.inr ⟨ha, h4 c y z hcn hy hzc hb h'⟩
            · exact Or.inr ⟨ha, hd'⟩)
    refine ⟨μ', b1, b2, b3, b4, ?_⟩
    unfold l_Md_findComes_79 f_Md_findComes_79
    rw [h1 0 (by decide), h01, if_neg (nI_ge hcn (by omega)), ← nI_0, a3]
    unfold f_Md_findComes_177
    rw [nm_d, nI_1]
    exact b5
/-- comes holds just where a chain of unit rules leads -/
def CmOK (μ : Nat → Nat → Int32) (G : Gm) : Prop := ∀ x y, x < gS G → y < gS G → (cm μ x y ↔ Rq G (gR G) x y)
theorem q_findComes {N : Nat} (hN : 37 ≤ N) {μ : Nat → Nat → Int32} {G : Gm} (hG : MdG μ G) : ∃ μ', (∀ b, b ≠ 18 → μ' b = μ b) ∧ CmOK μ' G ∧ m_Md_findComes N μ = some μ' := by
  have hS := hG.1.1
  have hR := hG.1.2.2.1
  obtain ⟨μ1, a1, a2, a3⟩ := q_comes0 (N := N) μ (fun s_self => f_Md_findComes_21 N s_self) 36 0 N μ (by omega) (by omega) (fun _ _ => rfl) (fun z hz => by omega)
  obtain ⟨μ2, b1, b2, b3⟩ := q_comes1 (N := N) μ hG (fun s_self => f_Md_findComes_77 N s_self) (gR G) 0 N μ1 (by omega) (by omega) a1 (fun x y hx hy => by
    constructor
    · intro h
      exact absurd (a2 (6 * x + y) (by omega)) h
    · rintro ⟨q, hq, _⟩
      omega)
  obtain ⟨μ3, c1, c2, c3, c4, c5⟩ := q_comes79 (N := N) (by omega) (Pt0 := fun x y => Rq G (gR G) x y) hS μ hG.2.1 (fun x y z h k => Rq_trans h k) (fun x y => ∃ q, q < gR G ∧ isU G q ∧ grs G q = x ∧ uS G q = y) (fun s_self => f_Md_findComes_183 N s_self) (gS G) 0 N μ2 (by omega) (by omega) b1 (fun x y hx hy h => by
      obtain ⟨q, q1, q2, q3, q4⟩ := (b2 x y (by omega) (by omega)).mp h
      rw [← q3, ← q4]
      exact Rq_one q1 q1 q2) (fun x y hx hy h => (b2 x y (by omega) (by omega)).mpr h) (fun x y z _ _ hz => by omega)
  refine ⟨μ3, c1, fun x y hx hy => ⟨c2 x y hx hy, fun h => ?_⟩, ?_⟩
  · obtain ⟨u, u1, u2, u3⟩ := Rq_full.mp h
    have key : ∀ (u : List Nat) (x : Nat), x < gS G → u ≠ [] → Pv G x u → pe G x u = y → cm μ3 x y := by
      intro u
      induction u with
      | nil => intro x _ h; exact absurd rfl h
      | cons r u ih =>
        intro x hx _ hp he
        obtain ⟨p1, p2, p3, p4⟩ := hp
        have ht := uS_lt hG.1 p1 p2
        have hedge : cm μ3 x (uS G r) := c3 x _ hx ht ⟨r, p1, p2, p3, rfl⟩
        by_cases eu : u = []
        · subst eu
          have : uS G r = y := he
          rw [← this]
          exact hedge
        · exact c4 x y _ hx hy ht hedge (ih _ ht eu p4 he)
    exact key u x hx u1 u2 u3
  · unfold m_Md_findComes f_Md_findComes_0
    rw [← nI_0, a3]
    unfold f_Md_findComes_21
    rw [← nI_0, b3]
    unfold f_Md_findComes_77
    rw [← nI_0]
    exact c5
