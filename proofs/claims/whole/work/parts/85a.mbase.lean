/-! the model: numbers 7, sizes 8, trees 9, draft 10 (its size at 0 19) -/
def mO (s i j : Nat) : Nat := (12 * s + i) * 13 + j
theorem mO_lt {s i j : Nat} (hs : s < 6) (hi : i < 12) (hj : j ≤ 12) : mO s i j < 936 := by
  unfold mO
  omega
theorem mO_inj {s i j s' i' j' : Nat} (hi : i < 12) (hi' : i' < 12) (hj : j ≤ 12) (hj' : j' ≤ 12) (e : mO s i j = mO s' i' j') : s = s' ∧ i = i' ∧ j = j' := by
  unfold mO at e
  omega
theorem q_cellOf {s i j : Nat} : m_Md_cellOf (nI s) (nI i) (nI j) = some (nI (mO s i j)) := by
  unfold m_Md_cellOf f_Md_cellOf_0 mO
  rw [l_12, pk_mul, nI_add, l_13, pk_mul, nI_add]
/-- ways, as the model writes them -/
def mW (v : Nat) : Int32 := if v = 1000002 then -3 else nI v
theorem mW_E : mW 1000002 = -3 := if_pos rfl
theorem mW_n {v : Nat} (h : v ≠ 1000002) : mW v = nI v := if_neg h
theorem n_m3 {a : Nat} (h : a < 2 ^ 31) : ¬ nI a = -3 := by
  intro e
  have h1 := nI_toInt h
  rw [e] at h1
  have h2 : (-3 : Int32).toInt = -3 := by decide
  omega
theorem q_sum {a b : Nat} (ha : a ≤ 1000002) (hb : b ≤ 1000002) : m_Md_sum (mW a) (mW b) = some (mW (wplus a b)) := by
  unfold m_Md_sum f_Md_sum_0 wplus
  by_cases c1 : a = 1000002
  · subst c1
    rw [mW_E, if_pos rfl, if_pos (Or.inl rfl), mW_E]
  · by_cases c2 : b = 1000002
    · subst c2
      rw [mW_n c1, mW_E, if_neg (n_m3 (by omega)), if_pos rfl, if_pos (Or.inr rfl), mW_E]
    · rw [mW_n c1, mW_n c2, if_neg (n_m3 (by omega)), if_neg (n_m3 (by omega)), nI_add, l_1000001, if_neg (by omega : ¬ (a = 1000002 ∨ b = 1000002)), mW_n (by omega)]
      by_cases c3 : a + b ≤ 1000001
      · rw [if_pos (nI_le c3 (by omega)), Nat.min_eq_left c3]
      · rw [if_neg (nI_ge (by omega) (by omega)), Nat.min_eq_right (by omega)]
theorem q_product {a b : Nat} (ha : a ≤ 1000002) (hb : b ≤ 1000002) : m_Md_product (mW a) (mW b) = some (mW (wtimes a b)) := by
  unfold m_Md_product f_Md_product_0 wtimes
  by_cases c1 : a = 0
  · subst c1
    rw [mW_n (by omega), if_pos nI_0, if_pos (Or.inl rfl), mW_n (by omega), nI_0]
  · have na : ¬ mW a = 0 := by
      by_cases e : a = 1000002
      · rw [e, mW_E]; decide
      · rw [mW_n e]; exact nI_ne0 (by omega) (by omega)
    by_cases c2 : b = 0
    · subst c2
      rw [if_neg na, mW_n (by omega : (0 : Nat) ≠ 1000002), if_pos nI_0, if_pos (Or.inr rfl), mW_n (by omega), nI_0]
    · have nb : ¬ mW b = 0 := by
        by_cases e : b = 1000002
        · rw [e, mW_E]; decide
        · rw [mW_n e]; exact nI_ne0 (by omega) (by omega)
      rw [if_neg na, if_neg nb, if_neg (by omega : ¬ (a = 0 ∨ b = 0))]
      by_cases c3 : a = 1000002
      · subst c3
        rw [mW_E, if_pos rfl, if_pos (Or.inl rfl), mW_E]
      · by_cases c4 : b = 1000002
        · subst c4
          rw [mW_n c3, mW_E, if_neg (n_m3 (by omega)), if_pos rfl, if_pos (Or.inr rfl), mW_E]
        · have hab : a * b ≤ 1000002 * 1000002 := Nat.mul_le_mul ha hb
          rw [mW_n c3, mW_n c4, if_neg (n_m3 (by omega)), if_neg (n_m3 (by omega)), if_neg (by omega : ¬ (a = 1000002 ∨ b = 1000002)), nm_d, nL_of (by omega), nL_of (by omega), nL_mul, show (1000001 : Int64) = nL 1000001 from rfl]
          by_cases c5 : a * b ≤ 1000001
          · rw [if_pos ((lg_cmp_le _ _).mpr (by rw [Int64.le_iff_toInt_le, nL_t (by omega), nL_t (by omega)]; omega)), nL_back (by omega), Nat.min_eq_left c5, mW_n (by omega)]
          · rw [if_neg (fun h => by
              have := (lg_cmp_le _ _).mp h
              rw [Int64.le_iff_toInt_le, nL_t (by omega), nL_t (by omega)] at this
              omega), Nat.min_eq_right (by omega), mW_n (by omega), l_1000001]
/-- tree t of the model is x; no codes: none -/
def MT (μ : Nat → Nat → Int32) (t : Nat) (x : List Int32) : Prop := μ 8 t = nI x.length ∧ x.length ≤ 200 ∧ ∀ k, k < x.length → μ 9 (200 * t + k) = x.getD k 0
def MD (μ : Nat → Nat → Int32) (d : List Int32) : Prop := μ 0 19 = nI d.length ∧ d.length ≤ 1000 ∧ ∀ k, k < d.length → μ 10 k = d.getD k 0
def MP (μ : Nat → Nat → Int32) (c : Nat) (p : List (List Int32)) : Prop := p.length ≤ 2 ∧ (∀ x, x ∈ p → x ≠ []) ∧ MT μ (2 * c) (p.getD 0 []) ∧ MT μ (2 * c + 1) (p.getD 1 [])
theorem q_compare_l {N : Nat} {μ : Nat → Nat → Int32} {t : Nat} {x d : List Int32} (ht : t < 1872) (hx : MT μ t x) (hd : MD μ d) (hl : d.length = x.length) (kx : Int32 → Option Int32) : ∀ (m i f : Nat), i + m = x.length → m < f →
    ((d.drop i = x.drop i) ∧ l_Md_compare_38 N μ (nI t) (nI x.length) kx f 0 (nI i) = kx 0) ∨ (lx (d.drop i) (x.drop i) ∧ l_Md_compare_38 N μ (nI t) (nI x.length) kx f 0 (nI i) = kx 1) ∨ (lx (x.drop i) (d.drop i) ∧ l_Md_compare_38 N μ (nI t) (nI x.length) kx f 0 (nI i) = kx (-1)) := by
  obtain ⟨x1, x2, x3⟩ := hx
  obtain ⟨d1, d2, d3⟩ := hd
  intro m
  induction m with
  | zero =>
    intro i f hi hf
    obtain ⟨f, rfl⟩ : ∃ m, f = m + 1 := ⟨f - 1, by omega⟩
    have : i = x.length := by omega
    subst this
    left
    refine ⟨by rw [List.drop_length, ← hl, List.drop_length], ?_⟩
    unfold l_Md_compare_38 f_Md_compare_38
    rw [if_pos (nI_le (Nat.le_refl _) (by omega))]
  | succ m ih =>
    intro i f hi hf
    obtain ⟨f, rfl⟩ : ∃ m, f = m + 1 := ⟨f - 1, by omega⟩
    obtain ⟨X, hX⟩ : ∃ X, X = l_Md_compare_38 N μ (nI t) (nI x.length) kx (f + 1) 0 (nI i) := ⟨_, rfl⟩
    rw [← hX]
    have step : X = f_Md_compare_38 N (l_Md_compare_38 N μ (nI t) (nI x.length) kx f) kx μ (nI t) (nI x.length) 0 (nI i) := hX
    unfold f_Md_compare_38 at step
    rw [if_neg (nI_ge (by omega) (by omega)), if_pos rfl, ck_n (by omega) (by omega), nm_d, nI_clamp (by omega), d3 i (by omega), l_200, pk_mul, nI_add, ck_n (by omega) (by omega), nm_d, nI_clamp (by omega), x3 i (by omega), nm_d, nI_1, nm_d, nm_d] at step
    have dd : d.drop i = d.getD i 0 :: d.drop (i + 1) := drop_getD (by omega)
    have dx : x.drop i = x.getD i 0 :: x.drop (i + 1) := drop_getD (by omega)
    -- once told apart, the answer stays
    have stop : ∀ a : Int32, a ≠ 0 → l_Md_compare_38 N μ (nI t) (nI x.length) kx f a (nI (i + 1)) = kx a := by
      intro a ha
      obtain ⟨f, rfl⟩ : ∃ m, f = m + 1 := ⟨f - 1, by omega⟩
      unfold l_Md_compare_38 f_Md_compare_38
      by_cases q : nI x.length ≤ nI (i + 1)
      · rw [if_pos q]
      · rw [if_neg q, if_neg ha]
    by_cases c1 : x.getD i 0 ≤ d.getD i 0
    · rw [if_pos c1] at step
      by_cases c2 : d.getD i 0 ≤ x.getD i 0
      · rw [if_pos c2] at step
        have e : d.getD i 0 = x.getD i 0 := Int32.le_antisymm c2 c1
        rw [dd, dx, e, step]
        rcases ih (i + 1) f (by omega) (by omega) with ⟨a1, a2⟩ | ⟨a1, a2⟩ | ⟨a1, a2⟩
        · exact Or.inl ⟨by rw [a1], a2⟩
        · exact Or.inr (Or.inl ⟨lx_cons.mpr a1, a2⟩)
        · exact Or.inr (Or.inr ⟨lx_cons.mpr a1, a2⟩)
      · rw [if_neg c2, stop _ (by decide)] at step
        right; right
        refine ⟨?_, step⟩
        rw [dd, dx]
        exact Or.inl (Int32.not_le.mp c2)
    · rw [if_neg c1, stop _ (by decide)] at step
      right; left
      refine ⟨?_, step⟩
      rw [dd, dx]
      exact Or.inl (Int32.not_le.mp c1)
theorem q_compare {N : Nat} (hN : 201 ≤ N) {μ : Nat → Nat → Int32} {t : Nat} {x d : List Int32} (ht : t < 1872) (hx : MT μ t x) (hd : MD μ d) : ((x = [] ∨ cl d x) ∧ m_Md_compare N μ (nI t) = some 1) ∨ (x ≠ [] ∧ d = x ∧ m_Md_compare N μ (nI t) = some 0) ∨ (x ≠ [] ∧ cl x d ∧ m_Md_compare N μ (nI t) = some (-1)) := by
  have x2 := hx.2.1
  have d2 := hd.2.1
  unfold m_Md_compare f_Md_compare_0
  rw [ck_n ht (by omega), nm_d, nI_clamp (by omega), hx.1, hd.1]
  by_cases z : x = []
  · left
    refine ⟨Or.inl z, ?_⟩
    rw [z, List.length_nil, if_pos nI_0]
  · have hx0 : 0 < x.length := List.length_pos_iff.mpr z
    rw [if_neg (nI_ne0 hx0 (by omega))]
    by_cases c1 : x.length ≤ d.length
    · rw [if_pos (nI_le c1 (by omega))]
      by_cases c2 : d.length ≤ x.length
      · rw [if_pos (nI_le c2 (by omega))]
        have key := q_compare_l (N := N) ht hx hd (by omega) (fun v3 => f_Md_compare_102 N μ v3) x.length 0 N (by omega) (by omega)
        rw [nI_0, List.drop_zero, List.drop_zero] at key
        rcases key with ⟨a1, a2⟩ | ⟨a1, a2⟩ | ⟨a1, a2⟩
        · exact Or.inr (Or.inl ⟨z, a1, a2⟩)
        · exact Or.inl ⟨Or.inr (Or.inr ⟨by omega, a1⟩), a2⟩
        · exact Or.inr (Or.inr ⟨z, Or.inr ⟨by omega, a1⟩, a2⟩)
      · rw [if_neg (nI_ge (by omega) (by omega))]
        refine Or.inr (Or.inr ⟨z, Or.inl (by omega), ?_⟩)
        obtain ⟨N', rfl⟩ : ∃ m, N = m + 1 := ⟨N - 1, by omega⟩
        unfold l_Md_compare_38 f_Md_compare_38
        rw [if_neg (of_eq_false (c_le0 hx0 (by omega))), if_neg (by decide)]
        rfl
    · rw [if_neg (nI_ge (by omega) (by omega))]
      exact Or.inl ⟨Or.inr (Or.inl (by omega)), rfl⟩
theorem q_keep_l {N : Nat} {t : Nat} {d : List Int32} (ht : t < 1872) (h200 : d.length ≤ 200) (μ0 : Nat → Nat → Int32) (kx : (Nat → Nat → Int32) → Option (Nat → Nat → Int32)) : ∀ (m i f : Nat) (μ : Nat → Nat → Int32), i + m = d.length → m < f → MD μ d → (∀ a, a ≠ 9 → μ a = μ0 a) → (∀ k, k < i → μ 9 (200 * t + k) = d.getD k 0) → (∀ z, (∀ k, k < 200 → z ≠ 200 * t + k) → μ 9 z = μ0 9 z) →
    ∃ μ', (∀ a, a ≠ 9 → μ' a = μ0 a) ∧ (∀ k, k < d.length → μ' 9 (200 * t + k) = d.getD k 0) ∧ (∀ z, (∀ k, k < 200 → z ≠ 200 * t + k) → μ' 9 z = μ0 9 z) ∧ l_Md_keepDraft_12 N (nI t) kx f μ (nI i) = kx μ' := by
  intro m
  induction m with
  | zero =>
    intro i f μ hi hf hd h1 h2 h3
    obtain ⟨f, rfl⟩ : ∃ m, f = m + 1 := ⟨f - 1, by omega⟩
    have : i = d.length := by omega
    subst this
    refine ⟨μ, h1, h2, h3, ?_⟩
    unfold l_Md_keepDraft_12 f_Md_keepDraft_12
    rw [hd.1, if_pos (nI_le (Nat.le_refl _) (by omega))]
  | succ m ih =>
    intro i f μ hi hf hd h1 h2 h3
    obtain ⟨f, rfl⟩ : ∃ m, f = m + 1 := ⟨f - 1, by omega⟩
    obtain ⟨d1, d2, d3⟩ := hd
    obtain ⟨μ', g1, g2, g3, g4⟩ := ih (i + 1) f (st2 μ 9 (200 * t + i) (d.getD i 0)) (by omega) (by omega) ⟨by rw [st2_aj _ _ _ _ (by decide)]; exact d1, d2, fun k hk => by rw [st2_aj _ _ _ _ (by decide)]; exact d3 k hk⟩ (fun a ha => by rw [st2_a _ _ _ ha]; exact h1 a ha)
      (fun k hk => by
        by_cases e : k = i
        · subst e
          rw [st2_s]
        · rw [st2_k _ _ _ (by omega)]
          exact h2 k (by omega))
      (fun z hz => by rw [st2_k _ _ _ (hz i (by omega))]; exact h3 z hz)
    refine ⟨μ', g1, g2, g3, ?_⟩
    unfold l_Md_keepDraft_12 f_Md_keepDraft_12
    rw [d1, if_neg (nI_ge (by omega) (by omega)), ck_n (by omega) (by omega), l_200, pk_mul, nI_add, ck_n (by omega) (by omega), nm_d, nI_clamp (by omega), nI_clamp (by omega), d3 i (by omega), nm_d, nI_1]
    exact g4
/-- what the writing of one tree changes -/
def Wt (μ μ' : Nat → Nat → Int32) (t : Nat) : Prop := (∀ a, a ≠ 8 → a ≠ 9 → μ' a = μ a) ∧ (∀ z, z ≠ t → μ' 8 z = μ 8 z) ∧ ∀ z, (∀ k, k < 200 → z ≠ 200 * t + k) → μ' 9 z = μ 9 z
theorem q_keepDraft {N : Nat} (hN : 201 ≤ N) {μ : Nat → Nat → Int32} {t : Nat} {d : List Int32} (ht : t < 1872) (hd : MD μ d) (h200 : d.length ≤ 200) : ∃ μ', MT μ' t d ∧ Wt μ μ' t ∧ m_Md_keepDraft N μ (nI t) = some μ' := by
  obtain ⟨d1, d2, d3⟩ := hd
  obtain ⟨μ', g1, g2, g3, g4⟩ := q_keep_l (N := N) ht h200 (st2 μ 8 t (nI d.length)) (fun s_self => f_Md_keepDraft_44 N s_self) d.length 0 N (st2 μ 8 t (nI d.length)) (by omega) (by omega) ⟨by rw [st2_aj _ _ _ _ (by decide)]; exact d1, d2, fun k hk => by rw [st2_aj _ _ _ _ (by decide)]; exact d3 k hk⟩ (fun _ _ => rfl) (fun k hk => by omega) (fun _ _ => rfl)
  refine ⟨μ', ⟨by rw [g1 8 (by decide), st2_s], h200, g2⟩, ⟨fun a h8 h9 => by rw [g1 a h9, st2_a _ _ _ h8], fun z hz => by rw [g1 8 (by decide), st2_k _ _ _ hz], fun z hz => by rw [g3 z hz, st2_aj _ _ _ _ (by decide)]⟩, ?_⟩
  unfold m_Md_keepDraft f_Md_keepDraft_0
  rw [ck_n ht (by omega), nm_d, nI_clamp (by omega), d1, ← nI_0]
  exact g4
theorem MT.wt {μ μ' : Nat → Nat → Int32} {t t' : Nat} {x : List Int32} (h : MT μ t x) (k : Wt μ μ' t') (hn : t ≠ t') : MT μ' t x := by
  obtain ⟨h1, h2, h3⟩ := h
  refine ⟨by rw [k.2.1 t hn]; exact h1, h2, fun q hq => ?_⟩
  rw [k.2.2 _ (fun z hz => by omega)]
  exact h3 q hq
theorem MD.wt {μ μ' : Nat → Nat → Int32} {t : Nat} {d : List Int32} (h : MD μ d) (k : Wt μ μ' t) : MD μ' d := by
  obtain ⟨h1, h2, h3⟩ := h
  refine ⟨by rw [k.1 0 (by decide) (by decide)]; exact h1, h2, fun q hq => ?_⟩
  rw [k.1 10 (by decide) (by decide)]
  exact h3 q hq
/-- the first of a cell goes second -/
theorem q_shift_l {N : Nat} {c : Nat} {x : List Int32} (hc : c < 936) (μ0 : Nat → Nat → Int32) (kx : (Nat → Nat → Int32) → Option (Int32 × (Nat → Nat → Int32))) : ∀ (m i f : Nat) (μ : Nat → Nat → Int32), i + m = x.length → m < f → MT μ (2 * c) x → (∀ a, a ≠ 9 → μ a = μ0 a) → (∀ k, k < i → μ 9 (200 * (2 * c + 1) + k) = x.getD k 0) → (∀ z, (∀ k, k < 200 → z ≠ 200 * (2 * c + 1) + k) → μ 9 z = μ0 9 z) →
    ∃ μ', MT μ' (2 * c) x ∧ (∀ a, a ≠ 9 → μ' a = μ0 a) ∧ (∀ k, k < x.length → μ' 9 (200 * (2 * c + 1) + k) = x.getD k 0) ∧ (∀ z, (∀ k, k < 200 → z ≠ 200 * (2 * c + 1) + k) → μ' 9 z = μ0 9 z) ∧ l_Md_offer_56 N (nI c) kx f μ (nI i) = kx μ' := by
  intro m
  induction m with
  | zero =>
    intro i f μ hi hf hx h1 h2 h3
    obtain ⟨f, rfl⟩ : ∃ m, f = m + 1 := ⟨f - 1, by omega⟩
    have hx2 := hx.2.1
    have : i = x.length := by omega
    subst this
    refine ⟨μ, hx, h1, h2, h3, ?_⟩
    unfold l_Md_offer_56 f_Md_offer_56
    rw [l_2, pk_mul, ck_n (by omega) (by omega), nI_clamp (by omega), hx.1, if_pos (nI_le (Nat.le_refl _) (by omega))]
  | succ m ih =>
    intro i f μ hi hf hx h1 h2 h3
    obtain ⟨f, rfl⟩ : ∃ m, f = m + 1 := ⟨f - 1, by omega⟩
    obtain ⟨x1, x2, x3⟩ := hx
    have ex : μ 9 (400 * c + i) = x.getD i 0 := by
      rw [show 400 * c + i = 200 * (2 * c) + i by omega]
      exact x3 i (by omega)
    obtain ⟨μ', g0, g1, g2, g3, g4⟩ := ih (i + 1) f (st2 μ 9 (200 * (2 * c + 1) + i) (x.getD i 0)) (by omega) (by omega) ⟨by rw [st2_aj _ _ _ _ (by decide)]; exact x1, x2, fun k hk => by rw [st2_k _ _ _ (by omega)]; exact x3 k hk⟩ (fun a ha => by rw [st2_a _ _ _ ha]; exact h1 a ha)
      (fun k hk => by
        by_cases e : k = i
        · subst e
          rw [st2_s]
        · rw [st2_k _ _ _ (by omega)]
          exact h2 k (by omega))
      (fun z hz => by rw [st2_k _ _ _ (hz i (by omega))]; exact h3 z hz)
    refine ⟨μ', g0, g1, g2, g3, ?_⟩
    unfold l_Md_offer_56 f_Md_offer_56
    rw [l_2, pk_mul, ck_n (by omega) (by omega), nI_clamp (by omega), x1, if_neg (nI_ge (by omega) (by omega)), l_400, pk_mul, nI_add, ck_n (by omega) (by omega), nI_1, l_200, pk_mul, nI_add, ck_n (by omega) (by omega), nm_d, nI_clamp (by omega), nI_clamp (by omega), ex, nm_d, nI_1]
    exact g4
