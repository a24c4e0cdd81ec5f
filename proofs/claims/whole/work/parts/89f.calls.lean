/-! stretches, grow, shortest, about, symbol, count, check -/
def su (f : Nat → Nat) : Nat → Nat
  | 0 => 0
  | n + 1 => su f n + f n
theorem su_congr {f g : Nat → Nat} : ∀ (n : Nat), (∀ k, k < n → f k = g k) → su f n = su g n
  | 0, _ => rfl
  | n + 1, h => by
    show su f n + f n = su g n + g n
    rw [su_congr n (fun k hk => h k (by omega)), h n (by omega)]
theorem su_add (f g : Nat → Nat) : ∀ (n : Nat), su (fun k => f k + g k) n = su f n + su g n
  | 0 => rfl
  | n + 1 => by
    show su (fun k => f k + g k) n + (f n + g n) = su f n + f n + (su g n + g n)
    rw [su_add f g n]
    omega
theorem su_le {f : Nat → Nat} {b : Nat} (h : ∀ k, f k ≤ b) : ∀ (n : Nat), su f n ≤ n * b
  | 0 => by simp [su]
  | n + 1 => by
    have := su_le h n
    have := h n
    show su f n + f n ≤ (n + 1) * b
    rw [Nat.add_mul, Nat.one_mul]
    omega
/-- the same cells, counted by ends and counted by starts -/
theorem su_swap (b : Nat → Nat → Nat) : ∀ (n : Nat), su (fun i => su (fun d => b i (i + 1 + d)) (n - i)) n = su (fun j => su (fun i => b i (j + 1)) (j + 1)) n
  | 0 => rfl
  | n + 1 => by
    show su (fun i => su (fun d => b i (i + 1 + d)) (n + 1 - i)) n + su (fun d => b n (n + 1 + d)) (n + 1 - n) = su (fun j => su (fun i => b i (j + 1)) (j + 1)) n + (su (fun i => b i (n + 1)) n + b n (n + 1))
    have e1 : su (fun i => su (fun d => b i (i + 1 + d)) (n + 1 - i)) n = su (fun i => su (fun d => b i (i + 1 + d)) (n - i) + b i (n + 1)) n := by
      apply su_congr
      intro i hi
      rw [show n + 1 - i = (n - i) + 1 by omega]
      show su (fun d => b i (i + 1 + d)) (n - i) + b i (i + 1 + (n - i)) = _
      rw [show i + 1 + (n - i) = n + 1 by omega]
    have e2 : su (fun d => b n (n + 1 + d)) (n + 1 - n) = b n (n + 1) := by
      rw [show n + 1 - n = 1 by omega]
      show 0 + b n (n + 1 + 0) = _
      rw [Nat.zero_add, Nat.add_zero]
    rw [e1, e2, su_add, su_swap b n]
    omega
def kd (v : Nat) : Nat := if v = 1000002 then 3 else min v 2
def hit (a : Int32) (v : Nat) : Nat := if nI (kd v) = a then 1 else 0
theorem hit_le (a : Int32) (v : Nat) : hit a v ≤ 1 := by
  unfold hit
  split <;> omega
theorem p_kind {v : Nat} (h : v ≤ 1000002) : m_Wy_kindOf (nI v) = some (nI (kd v)) := by
  unfold m_Wy_kindOf f_Wy_kindOf_0 kd
  by_cases c : v = 1000002
  · rw [if_pos (by rw [c, l_1000002]), if_pos c]
    rfl
  · rw [l_1000002, if_neg (fun q => c (nI_inj (by omega) (by omega) q)), if_neg c, nm_d, l_2]
    by_cases d : 2 < v
    · rw [if_pos (of_eq_true (c_lt_t d (by omega))), Nat.min_eq_right (by omega)]
    · rw [if_neg (of_eq_false (c_lt_f (by omega) (by omega))), Nat.min_eq_left (by omega)]
theorem p_st53 {N : Nat} {x γ χ τ ρ : Nat → Nat → Int32} {s j : Nat} (hs : s < 6) (hj : j ≤ 12) (a : Int32) {vf : Nat → Nat} (hv : ∀ i, i < j → vf i ≤ 1000002 ∧ χ 1 (cO s i j) = nI (vf i)) (kx : Int32 → Option (Int32 × (Nat → Nat → Int32) × (Nat → Nat → Int32))) : ∀ (d i n c : Nat), i + d = j → d < n → l_Rt_stretches_53 N 12 x γ χ τ ρ (nI s) a (nI j) kx n (nI (c + su (fun i => hit a (vf i)) i)) (nI i) = kx (nI (c + su (fun i => hit a (vf i)) j)) := by
  intro d
  induction d with
  | zero =>
    intro i n c hi hn
    obtain ⟨n, rfl⟩ : ∃ m, n = m + 1 := ⟨n - 1, by omega⟩
    have : i = j := by omega
    subst this
    unfold l_Rt_stretches_53 f_Rt_stretches_53
    rw [if_pos (nI_le (Nat.le_refl _) (by omega))]
  | succ d ih =>
    intro i n c hi hn
    obtain ⟨n, rfl⟩ : ∃ m, n = m + 1 := ⟨n - 1, by omega⟩
    obtain ⟨v1, v2⟩ := hv i (by omega)
    have ih' := ih (i + 1) n c (by omega) (by omega)
    have e : su (fun i => hit a (vf i)) (i + 1) = su (fun i => hit a (vf i)) i + hit a (vf i) := rfl
    rw [e] at ih'
    unfold l_Rt_stretches_53 f_Rt_stretches_53
    rw [if_neg (nI_ge (by omega) (by omega)), p_waysOf hs (by omega) hj, b1_some, v2, p_kind v1, b1_some]
    unfold hit at ih'
    by_cases q : nI (kd (vf i)) = a
    · rw [if_pos q] at ih'
      rw [if_pos q, nm_d, nI_1, nm_d, nI_1]
      exact ih'
    · rw [if_neg q, Nat.add_zero] at ih'
      rw [if_neg q, nm_d, nI_1]
      exact ih'
theorem p_st38 {N : Nat} (hN : 20 ≤ N) {x γ χ τ ρ : Nat → Nat → Int32} {s : Nat} (hs : s < 6) {w : List Int32} (hw : SyL 12 ρ w) (a : Int32) {vf : Nat → Nat → Nat} (hv : ∀ i j, i < j → j ≤ w.length → vf i j ≤ 1000002 ∧ χ 1 (cO s i j) = nI (vf i j)) (kx : Int32 → Option (Int32 × (Nat → Nat → Int32) × (Nat → Nat → Int32))) : ∀ (d j n : Nat), j + d = w.length → d < n → l_Rt_stretches_38 N 12 x γ χ τ ρ (nI s) a kx n (nI (su (fun j => su (fun i => hit a (vf i (j + 1))) (j + 1)) j)) (nI (j + 1)) = kx (nI (su (fun j => su (fun i => hit a (vf i (j + 1))) (j + 1)) w.length)) := by
  have hl := hw.2.1
  intro d
  induction d with
  | zero =>
    intro j n hj hn
    obtain ⟨n, rfl⟩ : ∃ m, n = m + 1 := ⟨n - 1, by omega⟩
    have : j = w.length := by omega
    subst this
    unfold l_Rt_stretches_38 f_Rt_stretches_38
    rw [hw.1, if_pos (of_eq_true (c_lt_t (by omega) (by omega)))]
  | succ d ih =>
    intro j n hj hn
    obtain ⟨n, rfl⟩ : ∃ m, n = m + 1 := ⟨n - 1, by omega⟩
    have key := p_st53 (N := N) (x := x) (γ := γ) (τ := τ) (ρ := ρ) hs (show j + 1 ≤ 12 by omega) a (vf := fun i => vf i (j + 1)) (fun i hi => hv i (j + 1) hi (by omega)) (fun v3 => f_Rt_stretches_88 N 12 (l_Rt_stretches_38 N 12 x γ χ τ ρ (nI s) a kx n) kx x γ χ τ ρ (nI s) a v3 (nI (j + 1))) (j + 1) 0 N (su (fun j => su (fun i => hit a (vf i (j + 1))) (j + 1)) j) (by omega) (by omega)
    have e0 : su (fun i => hit a (vf i (j + 1))) 0 = 0 := rfl
    simp only [e0, Nat.add_zero, nI_0] at key
    unfold l_Rt_stretches_38 f_Rt_stretches_38
    rw [hw.1, if_neg (of_eq_false (c_lt_f (by omega) (by omega))), key]
    unfold f_Rt_stretches_88
    rw [nm_d, nI_1]
    exact ih (j + 1) n (by omega) (by omega)
theorem q_st48 {N : Nat} {μ : Nat → Nat → Int32} {s i l : Nat} (hs : s < 6) (hl : l ≤ 12) (h10 : μ 0 10 = nI l) (hi : i < l) (a : Int32) {vf : Nat → Nat} (hv : ∀ j, i < j → j ≤ l → vf j ≤ 1000002 ∧ μ 7 (mO s i j) = mW (vf j)) (kx : Int32 → Option (Int32 × (Nat → Nat → Int32))) : ∀ (d e n c : Nat), e + d = l - i → d < n → l_Md_stretches_48 N μ (nI s) a (nI i) kx n (nI (c + su (fun d => hit a (vf (i + 1 + d))) e)) (nI (i + 1 + e)) = kx (nI (c + su (fun d => hit a (vf (i + 1 + d))) (l - i))) := by
  intro d
  induction d with
  | zero =>
    intro e n c he hn
    obtain ⟨n, rfl⟩ : ∃ m, n = m + 1 := ⟨n - 1, by omega⟩
    have : e = l - i := by omega
    subst this
    unfold l_Md_stretches_48 f_Md_stretches_48
    rw [h10, if_pos (of_eq_true (c_lt_t (by omega) (by omega)))]
  | succ d ih =>
    intro e n c he hn
    obtain ⟨n, rfl⟩ : ∃ m, n = m + 1 := ⟨n - 1, by omega⟩
    obtain ⟨v1, v2⟩ := hv (i + 1 + e) (by omega) (by omega)
    have hc := mO_lt hs (show i < 12 by omega) (show i + 1 + e ≤ 12 by omega)
    have ih' := ih (e + 1) n c (by omega) (by omega)
    have eq : su (fun d => hit a (vf (i + 1 + d))) (e + 1) = su (fun d => hit a (vf (i + 1 + d))) e + hit a (vf (i + 1 + e)) := rfl
    rw [eq, show i + 1 + (e + 1) = i + 1 + e + 1 by omega] at ih'
    have fin : ∀ k0 : Int32, k0 = nI (kd (vf (i + 1 + e))) → f_Md_stretches_95 N (l_Md_stretches_48 N μ (nI s) a (nI i) kx n) kx μ (nI s) a (nI (c + su (fun d => hit a (vf (i + 1 + d))) e)) (nI i) (nI (i + 1 + e)) k0 = kx (nI (c + su (fun d => hit a (vf (i + 1 + d))) (l - i))) := by
      intro k0 hk
      subst hk
      unfold f_Md_stretches_95
      unfold hit at ih'
      by_cases q : nI (kd (vf (i + 1 + e))) = a
      · rw [if_pos q] at ih'
        rw [if_pos q, nm_d, nI_1, nm_d, nI_1]
        exact ih'
      · rw [if_neg q, Nat.add_zero] at ih'
        rw [if_neg q, nm_d, nI_1]
        exact ih'
    unfold l_Md_stretches_48 f_Md_stretches_48
    rw [h10, if_neg (of_eq_false (c_lt_f (by omega) (by omega))), q_cellOf, b1_some, ck_n (by omega) (by omega), nI_clamp (by omega), v2, nm_d]
    by_cases z : vf (i + 1 + e) = 1000002
    · rw [if_pos (by rw [z, mW_E])]
      exact fin 3 (by rw [z]; rfl)
    · rw [mW_n z, if_neg (n_m3 (by omega)), show (1 : Int32) = nI 1 from rfl]
      by_cases y : vf (i + 1 + e) ≤ 1
      · rw [if_pos (nI_le y (by omega))]
        exact fin _ (by unfold kd; rw [if_neg z, Nat.min_eq_left (by omega)])
      · rw [if_neg (nI_ge (by omega) (by omega))]
        exact fin 2 (by unfold kd; rw [if_neg z, Nat.min_eq_right (by omega)]; rfl)
theorem q_st33 {N : Nat} (hN : 20 ≤ N) {μ : Nat → Nat → Int32} {s l : Nat} (hs : s < 6) (hl : l ≤ 12) (h10 : μ 0 10 = nI l) (a : Int32) {vf : Nat → Nat → Nat} (hv : ∀ i j, i < j → j ≤ l → vf i j ≤ 1000002 ∧ μ 7 (mO s i j) = mW (vf i j)) (kx : Int32 → Option (Int32 × (Nat → Nat → Int32))) : ∀ (d i n : Nat), i + d = l → d < n → l_Md_stretches_33 N μ (nI s) a kx n (nI (su (fun i => su (fun d => hit a (vf i (i + 1 + d))) (l - i)) i)) (nI i) = kx (nI (su (fun i => su (fun d => hit a (vf i (i + 1 + d))) (l - i)) l)) := by
  intro d
  induction d with
  | zero =>
    intro i n hi hn
    obtain ⟨n, rfl⟩ : ∃ m, n = m + 1 := ⟨n - 1, by omega⟩
    have : i = l := by omega
    subst this
    unfold l_Md_stretches_33 f_Md_stretches_33
    rw [h10, if_pos (nI_le (Nat.le_refl _) (by omega))]
  | succ d ih =>
    intro i n hi hn
    obtain ⟨n, rfl⟩ : ∃ m, n = m + 1 := ⟨n - 1, by omega⟩
    have key := q_st48 (N := N) hs hl h10 (show i < l by omega) a (vf := fun j => vf i j) (fun j h1 h2 => hv i j h1 h2) (fun v3 => f_Md_stretches_117 N (l_Md_stretches_33 N μ (nI s) a kx n) kx μ (nI s) a v3 (nI i)) (l - i) 0 N (su (fun i => su (fun d => hit a (vf i (i + 1 + d))) (l - i)) i) (by omega) (by omega)
    have e0 : su (fun d => hit a (vf i (i + 1 + d))) 0 = 0 := rfl
    simp only [e0, Nat.add_zero] at key
    unfold l_Md_stretches_33 f_Md_stretches_33
    rw [h10, if_neg (nI_ge (by omega) (by omega)), nm_d, nI_1, key]
    unfold f_Md_stretches_117
    rw [nm_d, nI_1]
    exact ih (i + 1) n (by omega) (by omega)
/-- stretches -/
theorem c_stretches {N : Nat} (hN : NB ≤ N) {x γ χ τ ρ tp μ : Nat → Nat → Int32} (h : RlR x γ χ τ ρ tp μ) (a b : Int32) : ∃ r χ' τ' μ', m_Rt_stretches N 12 x γ χ τ ρ a b = some (r, χ', τ') ∧ m_Md_stretches N μ a b = some (r, μ') ∧ RlR x γ χ' τ' ρ tp μ' := by
  have hNB : 70000 ≤ NB := by unfold NB; omega
  have hth := h.th
  obtain ⟨G, w, t, h1, h2, h3, h4, h5, h6, h7, h8⟩ := h
  have hS := h1.1.1
  have hl := h3.2.1
  have hS2 : st2 μ 0 0 0 0 1 = nI (gS G) := by rw [st2_k _ _ _ (by decide)]; exact h8.1.2.1
  obtain ⟨X, hX⟩ : ∃ X, X = m_Rt_stretches N 12 x γ χ τ ρ a b := ⟨_, rfl⟩
  obtain ⟨Y, hY⟩ : ∃ Y, Y = m_Md_stretches N μ a b := ⟨_, rfl⟩
  rw [← hX, ← hY]
  unfold m_Rt_stretches f_Rt_stretches_0 at hX
  unfold m_Md_stretches f_Md_stretches_0 at hY
  rw [nm_d] at hY
  rcases p_sortArg h1.2.1 hS2 hS a with ⟨s, hs, rfl, e1, e2⟩ | ⟨e1, e2⟩
  · rw [e1, b1_some, if_neg (by decide)] at hX
    rw [e2, b1_some, if_neg (by decide)] at hY
    by_cases c1 : b < 0
    · rw [if_pos c1] at hX hY
      exact ⟨_, _, _, _, hX, hY, hth⟩
    · rw [if_neg c1] at hX hY
      by_cases c2 : b ≤ 3
      · rw [if_pos c2] at hX hY
        obtain ⟨χ', τ', μ', C, V, us, D, vf, pf, b1, b2, b3, b4, b5, b6, b7, _, _⟩ := both hN h1 h2 h3 h4 h5 h6 h7 h8
        have k1 := p_st38 (N := N) (by omega) (x := x) (γ := γ) (χ := χ') (τ := τ') (show s < 6 by omega) h3 b (vf := vf s) (fun i j hij hj => ⟨(b7 s hs i j hij hj).1, (b7 s hs i j hij hj).2.1⟩) (fun v3 => f_Rt_stretches_94 N 12 x γ χ' τ' ρ v3) w.length 0 N (by omega) (by omega)
        have k2 := q_st33 (N := N) (by omega) (show s < 6 by omega) hl b5.2.1.1 b (vf := vf s) (fun i j hij hj => ⟨(b7 s hs i j hij hj).1, (b7 s hs i j hij hj).2.2.1⟩) (fun v3 => f_Md_stretches_123 N μ' v3) w.length 0 N (by omega) (by omega)
        have e0 : su (fun j => su (fun i => hit b (vf s i (j + 1))) (j + 1)) 0 = 0 := rfl
        have e0' : su (fun i => su (fun d => hit b (vf s i (i + 1 + d))) (w.length - i)) 0 = 0 := rfl
        rw [e0, nI_0, Nat.zero_add, show nI 1 = 1 from rfl] at k1
        rw [e0', nI_0, su_swap (fun i j => hit b (vf s i j))] at k2
        rw [b3, b2_some, k1] at hX
        rw [b4, b1_some, k2] at hY
        exact ⟨_, _, _, _, hX, hY, b6⟩
      · rw [if_neg c2] at hX hY
        exact ⟨_, _, _, _, hX, hY, hth⟩
  · rw [e1, b1_some, if_pos rfl] at hX
    rw [e2, b1_some, if_pos rfl] at hY
    exact ⟨_, _, _, _, hX, hY, hth⟩
/-- shortest -/
theorem c_shortest {N : Nat} (hN : NB ≤ N) {x γ χ τ ρ tp μ σ : Nat → Nat → Int32} {ℓ : Nat → Int64} (h : RlR x γ χ τ ρ tp μ) (a : Int32) : ∃ r σ' μ' ℓ', m_Rt_shortest N x γ σ a = some (r, σ') ∧ m_Md_shortest N μ ℓ a = some (r, μ', ℓ') ∧ RlR x γ χ τ ρ tp μ' := by
  have hNB : 70000 ≤ NB := by unfold NB; omega
  have hth := h.th
  obtain ⟨G, w, t, h1, h2, h3, h4, h5, h6, h7, h8⟩ := h
  have hS := h1.1.1
  have hS2 : st2 μ 0 0 0 0 1 = nI (gS G) := by rw [st2_k _ _ _ (by decide)]; exact h8.1.2.1
  rcases p_sortArg h1.2.1 hS2 hS a with ⟨s, hs, rfl, e1, e2⟩ | ⟨e1, e2⟩
  · obtain ⟨ℓ', m, m1, m2, m3⟩ := q_shortest hN (ℓ := ℓ) h8.1 hs
    obtain ⟨σ', n1⟩ := p_Rt_shortest (N := N) (x := x) (σ := σ) (by omega) h1 m1 m2 hs
    exact ⟨_, _, _, _, n1, m3, hth⟩
  · refine ⟨-1, σ, st2 μ 0 0 0, ℓ, ?_, ?_, hth⟩
    · unfold m_Rt_shortest f_Rt_shortest_0
      rw [e1, b1_some, if_pos rfl]
    · unfold m_Md_shortest f_Md_shortest_0
      rw [nm_d, e2, b1_some, if_pos rfl]
/-- check -/
theorem c_check {N : Nat} (hN : NB ≤ N) {x γ χ τ ω g σ ρ tp μ ll nn : Nat → Nat → Int32} (h : RlR x γ χ τ ρ tp μ) : ∃ r χ' τ' ω' g' σ' l' n' μ', m_Rt_check N 12 12 12 150 150 x γ χ τ ω g σ ρ ll nn = some (r, χ', τ', ω', g', σ', l', n') ∧ m_Md_check μ = some (r, μ') ∧ RlR x γ χ' τ' ρ tp μ' := by
  have hNB : 70000 ≤ NB := by unfold NB; omega
  have hth := h.th
  obtain ⟨G, w, t, h1, h2, h3, h4, h5, h6, h7, h8⟩ := hth
  obtain ⟨χ', τ', ω', g', σ', l', n', c1, c2⟩ := p_Rt_check (N := N) (x := x) (ω := ω) (g := g) (σ := σ) (ll := ll) (nn := nn) (by omega) h1 h3 h4 h7
  exact ⟨1, χ', τ', ω', g', σ', l', n', st2 μ 0 0 0, c2, p_Md_check μ, G, w, t, h1, h2, h3, h4, h5, h6, c1, h8⟩
/-- about -/
theorem c_about {N : Nat} (hN : 9 ≤ N) {x γ χ τ ρ tp μ : Nat → Nat → Int32} (h : RlR x γ χ τ ρ tp μ) (a b : Int32) : ∃ r μ', m_Rt_about x γ a b = some r ∧ m_Md_about N μ a b = some (r, μ') ∧ RlR x γ χ τ ρ tp μ' := by
  have hth := h.th
  obtain ⟨G, w, t, h1, h2, h3, h4, h5, h6, h7, h8⟩ := h
  have hR := h1.1.2.2.1
  have hG1 : MdG (st2 μ 0 0 0) G := h8.1.fq (fun z hz => st2_k _ _ _ (by omega)) (fun b hb => st2_a _ _ _ (by omega))
  obtain ⟨X, hX⟩ : ∃ X, X = m_Rt_about x γ a b := ⟨_, rfl⟩
  obtain ⟨Y, hY⟩ : ∃ Y, Y = m_Md_about N μ a b := ⟨_, rfl⟩
  rw [← hX, ← hY]
  unfold m_Rt_about f_Rt_about_0 at hX
  unfold m_Md_about f_Md_about_0 at hY
  rw [nm_d, hG1.2.2.2.1] at hY
  rcases p_hasRule h1.2.2.2.1 hR a with ⟨r, hr, rfl, e⟩ | ⟨hn, e⟩
  · rw [e, b1_some, if_neg (by decide), g_sort_r h1 hr, b1_some, g_len h1 hr, b1_some, g_slots h1 hr, b1_some] at hX
    rw [if_neg (nI_pos (by omega)), if_pos (of_eq_true (c_lt_t hr (by omega))), ck_n (by omega) (by omega), ck_n (by omega) (by omega), nI_clamp (by omega), (hG1.2.2.2.2.2 r hr).1, (hG1.2.2.2.2.2 r hr).2.2.1, q_different hN (hG1.2.2.2.2.2 r hr).2, b1_some] at hY
    by_cases c0 : b = 0
    · rw [if_pos c0] at hX hY
      exact ⟨_, _, hX, hY, hth⟩
    · rw [if_neg c0] at hX hY
      by_cases c1 : b = 1
      · rw [if_pos c1] at hX hY
        exact ⟨_, _, hX, hY, hth⟩
      · rw [if_neg c1] at hX hY
        by_cases c2 : b = 2
        · rw [if_pos c2] at hX hY
          exact ⟨_, _, hX, hY, hth⟩
        · rw [if_neg c2] at hX hY
          exact ⟨_, _, hX, hY, hth⟩
  · rw [e, b1_some, if_pos rfl] at hX
    rcases hn with hn | ⟨hn, hm⟩
    · rw [if_pos hn] at hY
      exact ⟨_, _, hX, hY, hth⟩
    · rw [if_neg hn, if_neg (Int32.not_lt.mpr hm)] at hY
      exact ⟨_, _, hX, hY, hth⟩
/-- symbol -/
theorem c_symbol {x γ χ τ ρ tp μ : Nat → Nat → Int32} (h : RlR x γ χ τ ρ tp μ) (a b : Int32) : ∃ r μ', m_Rt_symbol x γ a b = some r ∧ m_Md_symbol μ a b = some (r, μ') ∧ RlR x γ χ τ ρ tp μ' := by
  have hth := h.th
  obtain ⟨G, w, t, h1, h2, h3, h4, h5, h6, h7, h8⟩ := h
  have hR := h1.1.2.2.1
  have hG1 : MdG (st2 μ 0 0 0) G := h8.1.fq (fun z hz => st2_k _ _ _ (by omega)) (fun b hb => st2_a _ _ _ (by omega))
  obtain ⟨X, hX⟩ : ∃ X, X = m_Rt_symbol x γ a b := ⟨_, rfl⟩
  obtain ⟨Y, hY⟩ : ∃ Y, Y = m_Md_symbol μ a b := ⟨_, rfl⟩
  rw [← hX, ← hY]
  unfold m_Rt_symbol f_Rt_symbol_0 at hX
  unfold m_Md_symbol f_Md_symbol_0 at hY
  rw [nm_d, hG1.2.2.2.1] at hY
  rcases p_hasRule h1.2.2.2.1 hR a with ⟨r, hr, rfl, e⟩ | ⟨hn, e⟩
  · have h8' := (h1.1.2.2.2.2 r hr).2.2.1
    have hMR := (hG1.2.2.2.2.2 r hr).2
    rw [if_neg (nI_pos (by omega)), if_neg (nI_ge hr (by omega))] at hY
    by_cases c0 : b < 0
    · rw [if_pos c0] at hY
      unfold m_Gr_symbolAt f_Gr_symbolAt_0 at hX
      rw [e, b1_some, if_neg (by decide), if_pos c0, b1_some] at hX
      exact ⟨_, _, hX, hY, hth⟩
    · obtain ⟨k, hk, rfl⟩ := nI_of c0
      rw [if_neg c0, ck_n (by omega) (by omega), nI_clamp (by omega), hMR.2.1] at hY
      by_cases c1 : k < (gry G r).length
      · rw [g_sym h1 hr c1, b1_some] at hX
        rw [if_neg (nI_ge c1 (by omega)), l_8, pk_mul, nI_add, ck_n (by omega) (by omega), nI_clamp (by omega), hMR.2.2.2 k c1] at hY
        exact ⟨_, _, hX, hY, hth⟩
      · rw [if_pos (nI_le (by omega) hk)] at hY
        unfold m_Gr_symbolAt f_Gr_symbolAt_0 at hX
        rw [e, b1_some, if_neg (by decide), if_neg c0, ck_n (by omega) (by omega), nI_clamp (by omega), (h1.2.2.2.2.2 r hr).2.1, if_pos (nI_le (by omega) hk), b1_some] at hX
        exact ⟨_, _, hX, hY, hth⟩
  · unfold m_Gr_symbolAt f_Gr_symbolAt_0 at hX
    rw [e, b1_some, if_pos rfl, b1_some] at hX
    rcases hn with hn | ⟨hn, hm⟩
    · rw [if_pos hn] at hY
      exact ⟨_, _, hX, hY, hth⟩
    · rw [if_neg hn, if_pos hm] at hY
      exact ⟨_, _, hX, hY, hth⟩
/-- count -/
theorem c_count {x γ χ τ ρ tp μ : Nat → Nat → Int32} (h : RlR x γ χ τ ρ tp μ) (a : Int32) : ∃ r μ', m_Rt_count 12 200 x γ ρ tp a = some r ∧ m_Md_count μ a = some (r, μ') ∧ RlR x γ χ τ ρ tp μ' := by
  have hth := h.th
  obtain ⟨G, w, t, h1, h2, h3, h4, h5, h6, h7, h8⟩ := h
  have hR := h1.1.2.2.1
  have mk : ∀ k, k ≠ 0 → st2 μ 0 0 0 0 k = μ 0 k := fun k k0 => st2_k _ _ _ k0
  obtain ⟨X, hX⟩ : ∃ X, X = m_Rt_count 12 200 x γ ρ tp a := ⟨_, rfl⟩
  obtain ⟨Y, hY⟩ : ∃ Y, Y = m_Md_count μ a := ⟨_, rfl⟩
  rw [← hX, ← hY]
  unfold m_Rt_count f_Rt_count_0 at hX
  unfold m_Md_count f_Md_count_0 at hY
  rw [nm_d, mk 1 (by decide), mk 2 (by decide), mk 4 (by decide), mk 10 (by decide), mk 12 (by decide), mk 5 (by decide), h8.1.2.1, h8.1.2.2.1, h8.1.2.2.2.1, h8.2.1.1, h8.2.2.1.1] at hY
  rw [h1.2.1, h1.2.2.1, h1.2.2.2.1, h3.1, h5.1] at hX
  by_cases c0 : a = 0
  · rw [if_pos c0] at hX hY
    exact ⟨_, _, hX, hY, hth⟩
  rw [if_neg c0] at hX hY
  by_cases c1 : a = 1
  · rw [if_pos c1] at hX hY
    exact ⟨_, _, hX, hY, hth⟩
  rw [if_neg c1] at hX hY
  by_cases c2 : a = 2
  · rw [if_pos c2] at hX hY
    exact ⟨_, _, hX, hY, hth⟩
  rw [if_neg c2] at hX hY
  by_cases c3 : a = 3
  · rw [if_pos c3] at hX hY
    exact ⟨_, _, hX, hY, hth⟩
  rw [if_neg c3] at hX hY
  by_cases c4 : a = 4
  · rw [if_pos c4] at hX hY
    exact ⟨_, _, hX, hY, hth⟩
  rw [if_neg c4] at hX hY
  by_cases c5 : a = 5
  · rw [if_pos c5] at hX hY
    rcases h2 with ⟨b1, b2⟩ | ⟨b1, b2, b3, sb, l, q1, q2, q3, q4, q5, q6, q7, q8, q9⟩
    · rw [p_begunLength_n b1, b1_some] at hX
      rw [if_pos b2] at hY
      exact ⟨_, _, hX, hY, hth⟩
    · rw [p_begunLength_y h1.2.2.2.1 b3 (by rw [b1]; decide), b1_some, q7.1] at hX
      rw [if_neg (show ¬ μ 0 5 = 0 by rw [b2]; decide), ck30, t30, st2_aj _ _ _ _ (by decide), q9.2.1] at hY
      exact ⟨_, _, hX, hY, hth⟩
  · rw [if_neg c5] at hX hY
    exact ⟨_, _, hX, hY, hth⟩
