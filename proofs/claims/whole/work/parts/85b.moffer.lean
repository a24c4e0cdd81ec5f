/-- what the writing of one cell changes -/
def Wc (μ μ' : Nat → Nat → Int32) (c : Nat) : Prop := (∀ a, a ≠ 8 → a ≠ 9 → μ' a = μ a) ∧ (∀ z, z ≠ 2 * c → z ≠ 2 * c + 1 → μ' 8 z = μ 8 z) ∧ ∀ z, (∀ k, k < 400 → z ≠ 400 * c + k) → μ' 9 z = μ 9 z
theorem Wc.refl (μ : Nat → Nat → Int32) (c : Nat) : Wc μ μ c := ⟨fun _ _ _ => rfl, fun _ _ _ => rfl, fun _ _ => rfl⟩
theorem Wc.trans {μ μ' μ'' : Nat → Nat → Int32} {c : Nat} (h : Wc μ μ' c) (k : Wc μ' μ'' c) : Wc μ μ'' c :=
  ⟨fun a h8 h9 => by rw [k.1 a h8 h9, h.1 a h8 h9], fun z h1 h2 => by rw [k.2.1 z h1 h2, h.2.1 z h1 h2], fun z hz => by rw [k.2.2 z hz, h.2.2 z hz]⟩
theorem Wt.c0 {μ μ' : Nat → Nat → Int32} {c : Nat} (h : Wt μ μ' (2 * c)) : Wc μ μ' c :=
  ⟨h.1, fun z h1 _ => h.2.1 z h1, fun z hz => h.2.2 z (fun k hk => by have := hz k (by omega); omega)⟩
theorem Wt.c1 {μ μ' : Nat → Nat → Int32} {c : Nat} (h : Wt μ μ' (2 * c + 1)) : Wc μ μ' c :=
  ⟨h.1, fun z _ h2 => h.2.1 z h2, fun z hz => h.2.2 z (fun k hk => by have := hz (200 + k) (by omega); omega)⟩
theorem MP.wc {μ μ' : Nat → Nat → Int32} {c c' : Nat} {p : List (List Int32)} (h : MP μ c p) (k : Wc μ μ' c') (hn : c ≠ c') : MP μ' c p := by
  obtain ⟨h1, h2, ⟨a1, a2, a3⟩, ⟨b1, b2, b3⟩⟩ := h
  refine ⟨h1, h2, ⟨by rw [k.2.1 _ (by omega) (by omega)]; exact a1, a2, fun q hq => ?_⟩, ⟨by rw [k.2.1 _ (by omega) (by omega)]; exact b1, b2, fun q hq => ?_⟩⟩
  · rw [k.2.2 _ (fun z hz => by omega)]
    exact a3 q hq
  · rw [k.2.2 _ (fun z hz => by omega)]
    exact b3 q hq
theorem q_offer {N : Nat} (hN : 201 ≤ N) {μ : Nat → Nat → Int32} {c : Nat} {p : List (List Int32)} {d : List Int32} (hc : c < 936) (hp : MP μ c p) (hs : p.Pairwise cl) (hd : MD μ d) (hdn : d ≠ []) :
    ∃ μ' p' fl, m_Md_offer N μ (nI c) = some (fl, μ') ∧ MP μ' c p' ∧ MD μ' d ∧ Wc μ μ' c ∧ ((fl = 1 ∧ Ins p d p' ∧ d.length ≤ 200 ∧ ¬ dom p d) ∨ (fl = 0 ∧ p' = p ∧ μ' = μ ∧ (dom p d ∨ 200 < d.length))) := by
  obtain ⟨hp1, hp2, hp3, hp4⟩ := hp
  have d2 := hd.2.1
  have e1 : (2 : Int32) * nI c = nI (2 * c) := by rw [l_2, pk_mul]
  obtain ⟨X, hX⟩ : ∃ X, X = m_Md_offer N μ (nI c) := ⟨_, rfl⟩
  rw [← hX]
  have step : X = f_Md_offer_0 N μ (nI c) := hX
  unfold f_Md_offer_0 at step
  rw [hd.1, l_200, e1, nI_1] at step
  by_cases big : d.length ≤ 200
  · rw [if_pos (nI_le big (by omega))] at step
    -- d goes first
    have goF : (m_Md_compare N μ (nI (2 * c)) = some 1) → Ins p d (d :: p.take 1) → ¬ dom p d → ∃ μ' p' fl, X = some (fl, μ') ∧ MP μ' c p' ∧ MD μ' d ∧ Wc μ μ' c ∧ ((fl = 1 ∧ Ins p d p' ∧ d.length ≤ 200 ∧ ¬ dom p d) ∨ (fl = 0 ∧ p' = p ∧ μ' = μ ∧ (dom p d ∨ 200 < d.length))) := by
      intro h1 hins hnd
      obtain ⟨r4, h4⟩ : ∃ r4, m_Md_compare N μ (nI (2 * c + 1)) = some r4 := by
        rcases q_compare hN (show 2 * c + 1 < 1872 by omega) hp4 hd with ⟨_, h⟩ | ⟨_, _, h⟩ | ⟨_, _, h⟩
        · exact ⟨_, h⟩
        · exact ⟨_, h⟩
        · exact ⟨_, h⟩
      rw [h1, b1_some, h4, b1_some, if_pos rfl, ck_n (by omega) (by omega), ck_n (by omega) (by omega), nm_d, nI_clamp (by omega), nI_clamp (by omega), hp3.1] at step
      have x2 := hp3.2.1
      obtain ⟨μ1, g0, g1, g2, g3, g4⟩ := q_shift_l (N := N) hc (st2 μ 8 (2 * c + 1) (nI (p.getD 0 []).length)) (fun s_self => f_Md_offer_105 N s_self (nI c)) (p.getD 0 []).length 0 N (st2 μ 8 (2 * c + 1) (nI (p.getD 0 []).length)) (by omega) (by omega)
        ⟨by rw [st2_k _ _ _ (by omega)]; exact hp3.1, hp3.2.1, fun k hk => by rw [st2_aj _ _ _ _ (by decide)]; exact hp3.2.2 k hk⟩ (fun _ _ => rfl) (fun k hk => by omega) (fun _ _ => rfl)
      have hd1 : MD μ1 d := ⟨by rw [g1 0 (by decide), st2_aj _ _ _ _ (by decide)]; exact hd.1, d2, fun k hk => by rw [g1 10 (by decide), st2_aj _ _ _ _ (by decide)]; exact hd.2.2 k hk⟩
      obtain ⟨μ2, k1, k2, k3⟩ := q_keepDraft hN (show 2 * c < 1872 by omega) hd1 big
      have w1 : Wc μ μ1 c := ⟨fun a h8 h9 => by rw [g1 a h9, st2_a _ _ _ h8], fun z _ hz2 => by rw [g1 8 (by decide), st2_k _ _ _ hz2], fun z hz => by
        rw [g3 z (fun k hk => by have := hz (200 + k) (by omega); omega), st2_aj _ _ _ _ (by decide)]⟩
      have m1 : MT μ1 (2 * c + 1) (p.getD 0 []) := ⟨by rw [g1 8 (by decide), st2_s], hp3.2.1, g2⟩
      refine ⟨μ2, d :: p.take 1, 1, ?_, ⟨?_, ?_, k1, ?_⟩, hd1.wt k2, w1.trans k2.c0, Or.inl ⟨rfl, hins, big, hnd⟩⟩
      · rw [step, ← nI_0, g4]
        unfold f_Md_offer_105
        rw [e1, k3, b1_some]
      · simp only [List.length_cons, List.length_take]; omega
      · intro x hx
        rcases List.mem_cons.mp hx with rfl | hx
        · exact hdn
        · exact hp2 x (List.mem_of_mem_take hx)
      · have : (d :: p.take 1).getD 1 [] = p.getD 0 [] := by
          match p with
          | [] => rfl
          | _ :: _ => rfl
        rw [this]
        exact m1.wt k2 (by omega)
    -- d comes second
    have goS : ∀ a, (m_Md_compare N μ (nI (2 * c)) = some (-1)) → (m_Md_compare N μ (nI (2 * c + 1)) = some 1) → p.getD 0 [] = a → a ≠ [] → Ins p d [a, d] → ¬ dom p d → ∃ μ' p' fl, X = some (fl, μ') ∧ MP μ' c p' ∧ MD μ' d ∧ Wc μ μ' c ∧ ((fl = 1 ∧ Ins p d p' ∧ d.length ≤ 200 ∧ ¬ dom p d) ∨ (fl = 0 ∧ p' = p ∧ μ' = μ ∧ (dom p d ∨ 200 < d.length))) := by
      intro a h1 h4 ha han hins hnd
      rw [h1, b1_some, h4, b1_some, if_neg (by decide), if_neg (by decide), if_pos rfl] at step
      obtain ⟨μ2, k1, k2, k3⟩ := q_keepDraft hN (show 2 * c + 1 < 1872 by omega) hd big
      refine ⟨μ2, [a, d], 1, by rw [step, k3, b1_some], ⟨by simp, ?_, ?_, k1⟩, hd.wt k2, k2.c1, Or.inl ⟨rfl, hins, big, hnd⟩⟩
      · intro x hx
        simp only [List.mem_cons, List.not_mem_nil, or_false] at hx
        rcases hx with rfl | rfl
        · exact han
        · exact hdn
      · have := hp3.wt k2 (by omega)
        rw [ha] at this
        exact this
    -- it stays as it is
    have stay : ∀ r2 r4, m_Md_compare N μ (nI (2 * c)) = some r2 → m_Md_compare N μ (nI (2 * c + 1)) = some r4 → r2 ≠ 1 → (r2 = 0 ∨ r4 ≠ 1) → dom p d → ∃ μ' p' fl, X = some (fl, μ') ∧ MP μ' c p' ∧ MD μ' d ∧ Wc μ μ' c ∧ ((fl = 1 ∧ Ins p d p' ∧ d.length ≤ 200 ∧ ¬ dom p d) ∨ (fl = 0 ∧ p' = p ∧ μ' = μ ∧ (dom p d ∨ 200 < d.length))) := by
      intro r2 r4 h1 h4 n1 n2 hdom
      rw [h1, b1_some, h4, b1_some, if_neg n1] at step
      refine ⟨μ, p, 0, ?_, ⟨hp1, hp2, hp3, hp4⟩, hd, Wc.refl _ _, Or.inr ⟨rfl, rfl, rfl, Or.inl hdom⟩⟩
      rw [step]
      by_cases q : r2 = 0
      · rw [if_pos q]
      · rw [if_neg q, if_neg (n2.resolve_left q)]
    match p, hp1, hp2, hp3, hp4, hs with
    | [], _, _, hp3, hp4, _ =>
      rcases q_compare hN (show 2 * c < 1872 by omega) hp3 hd with ⟨_, h⟩ | ⟨h, _⟩ | ⟨h, _⟩
      · refine goF h (Or.inl ⟨rfl, rfl⟩) ?_
        rintro (q | ⟨q, _⟩)
        · simp at q
        · simp at q
      · exact absurd rfl h
      · exact absurd rfl h
    | [a], _, hp2, hp3, hp4, _ =>
      have ha := hp2 a (by simp)
      rcases q_compare hN (show 2 * c < 1872 by omega) hp3 hd with ⟨h0 | h0, h⟩ | ⟨_, h0, h⟩ | ⟨_, h0, h⟩
      · exact absurd h0 ha
      · refine goF h (Or.inr (Or.inl ⟨a, rfl, h0, rfl⟩)) ?_
        rintro (q | ⟨q, _⟩)
        · simp only [List.mem_cons, List.not_mem_nil, or_false] at q
          exact cl_ne h0 q
        · simp at q
      · rcases q_compare hN (show 2 * c + 1 < 1872 by omega) hp4 hd with ⟨_, h'⟩ | ⟨h', _⟩ | ⟨h', _⟩
        · exact stay _ _ h h' (by decide) (Or.inl rfl) (Or.inl (by
            have : d = a := h0
            simp [this]))
        · exact absurd rfl h'
        · exact absurd rfl h'
      · rcases q_compare hN (show 2 * c + 1 < 1872 by omega) hp4 hd with ⟨_, h'⟩ | ⟨h', _⟩ | ⟨h', _⟩
        · refine goS a h h' rfl ha (Or.inr (Or.inr (Or.inl ⟨a, rfl, h0, rfl⟩))) ?_
          rintro (q | ⟨q, _⟩)
          · simp only [List.mem_cons, List.not_mem_nil, or_false] at q
            exact cl_ne h0 q.symm
          · simp at q
        · exact absurd rfl h'
        · exact absurd rfl h'
    | [a, b], _, hp2, hp3, hp4, hs =>
      have ha := hp2 a (by simp)
      have hb := hp2 b (by simp)
      have hab : cl a b := by simpa using hs
      rcases q_compare hN (show 2 * c < 1872 by omega) hp3 hd with ⟨h0 | h0, h⟩ | ⟨_, h0, h⟩ | ⟨_, h0, h⟩
      · exact absurd h0 ha
      · refine goF h (Or.inr (Or.inr (Or.inr (Or.inl ⟨a, b, rfl, h0, rfl⟩)))) ?_
        rintro (q | ⟨_, q⟩)
        · simp only [List.mem_cons, List.not_mem_nil, or_false] at q
          rcases q with q | q
          · exact cl_ne h0 q
          · exact cl_asym hab (q ▸ h0)
        · exact cl_asym h0 (q a (by simp))
      · have e : d = a := h0
        rcases q_compare hN (show 2 * c + 1 < 1872 by omega) hp4 hd with ⟨_, h'⟩ | ⟨_, _, h'⟩ | ⟨_, _, h'⟩
        · exact stay _ _ h h' (by decide) (Or.inl rfl) (Or.inl (by simp [e]))
        · exact stay _ _ h h' (by decide) (Or.inl rfl) (Or.inl (by simp [e]))
        · exact stay _ _ h h' (by decide) (Or.inl rfl) (Or.inl (by simp [e]))
      · rcases q_compare hN (show 2 * c + 1 < 1872 by omega) hp4 hd with ⟨h1 | h1, h'⟩ | ⟨_, h1, h'⟩ | ⟨_, h1, h'⟩
        · exact absurd h1 hb
        · refine goS a h h' rfl ha (Or.inr (Or.inr (Or.inr (Or.inr (Or.inl ⟨a, b, rfl, h0, h1, rfl⟩))))) ?_
          rintro (q | ⟨_, q⟩)
          · simp only [List.mem_cons, List.not_mem_nil, or_false] at q
            rcases q with q | q
            · exact cl_ne h0 q.symm
            · exact cl_ne h1 q
          · exact cl_asym h1 (q b (by simp))
        · have e : d = b := h1
          exact stay _ _ h h' (by decide) (Or.inr (by decide)) (Or.inl (by simp [e]))
        · refine stay _ _ h h' (by decide) (Or.inr (by decide)) (Or.inr ⟨rfl, fun x hx => ?_⟩)
          simp only [List.mem_cons, List.not_mem_nil, or_false] at hx
          rcases hx with rfl | rfl
          · exact h0
          · exact h1
    | _ :: _ :: _ :: _, hp1, _, _, _, _ => simp at hp1
  · rw [if_neg (nI_ge (by omega) (by omega))] at step
    exact ⟨μ, p, 0, step, ⟨hp1, hp2, hp3, hp4⟩, hd, Wc.refl _ _, Or.inr ⟨rfl, rfl, rfl, Or.inr (by omega)⟩⟩
/-! the draft grows -/
theorem q_add {μ : Nat → Nat → Int32} {d : List Int32} (hd : MD μ d) (hl : d.length < 1000) (x : Int32) : ∃ μ', MD μ' (d ++ [x]) ∧ (∀ a, a ≠ 0 → a ≠ 10 → μ' a = μ a) ∧ (∀ k, k ≠ 19 → μ' 0 k = μ 0 k) ∧ m_Md_add μ x = some μ' := by
  obtain ⟨d1, d2, d3⟩ := hd
  refine ⟨st2 (st2 μ 10 d.length x) 0 19 (nI (d.length + 1)), ⟨by rw [st2_s]; simp, by simp; omega, fun k hk => ?_⟩, fun a h0 h10 => by rw [st2_a _ _ _ h0, st2_a _ _ _ h10], fun k hk => by rw [st2_k _ _ _ hk, st2_aj _ _ _ _ (by decide)], ?_⟩
  · simp only [List.length_append, List.length_cons, List.length_nil] at hk
    rw [st2_aj _ _ _ _ (by decide)]
    by_cases e : k = d.length
    · subst e
      rw [st2_s, getD_snoc_eq]
    · rw [st2_k _ _ _ e, getD_snoc_lt (by omega)]
      exact d3 k (by omega)
  · unfold m_Md_add f_Md_add_0
    rw [d1, ck_n (by omega) (by omega), nm_d, nI_clamp (by omega), nm_d, st2_aj _ _ _ _ (by decide), d1, nI_1]
theorem MT.keep {μ μ' : Nat → Nat → Int32} {t : Nat} {x : List Int32} (h : MT μ t x) (e8 : μ' 8 = μ 8) (e9 : μ' 9 = μ 9) : MT μ' t x := by
  unfold MT
  rw [e8, e9]
  exact h
theorem q_addTree_2 {N : Nat} {t : Nat} {x : List Int32} (ht : t < 1872) (kx : (Nat → Nat → Int32) → Option (Nat → Nat → Int32)) : ∀ (m i f : Nat) (μ : Nat → Nat → Int32) (d : List Int32), i + m = x.length → m < f → MT μ t x → MD μ (d ++ x.take i) → d.length + x.length ≤ 1000 → ∃ μ', MD μ' (d ++ x) ∧ (∀ a, a ≠ 0 → a ≠ 10 → μ' a = μ a) ∧ (∀ k, k ≠ 19 → μ' 0 k = μ 0 k) ∧ l_Md_addTree_2 N (nI t) kx f μ (nI i) = kx μ' := by
  intro m
  induction m with
  | zero =>
    intro i f μ d hi hf hx hd hl
    obtain ⟨f, rfl⟩ : ∃ m, f = m + 1 := ⟨f - 1, by omega⟩
    have x2 := hx.2.1
    have : i = x.length := by omega
    subst this
    rw [List.take_length] at hd
    refine ⟨μ, hd, fun _ _ _ => rfl, fun _ _ => rfl, ?_⟩
    unfold l_Md_addTree_2 f_Md_addTree_2
    rw [ck_n ht (by omega), nI_clamp (by omega), hx.1, if_pos (nI_le (Nat.le_refl _) (by omega))]
  | succ m ih =>
    intro i f μ d hi hf hx hd hl
    obtain ⟨f, rfl⟩ : ∃ m, f = m + 1 := ⟨f - 1, by omega⟩
    have x2 := hx.2.1
    have hlen : (d ++ x.take i).length = d.length + i := by rw [List.length_append, List.length_take]; omega
    obtain ⟨μ1, a1, a2, a3, a4⟩ := q_add hd (by omega) (x.getD i 0)
    rw [List.append_assoc, ← take_snoc (by omega)] at a1
    obtain ⟨μ', b1, b2, b3, b4⟩ := ih (i + 1) f μ1 d (by omega) (by omega) (hx.keep (a2 8 (by decide) (by decide)) (a2 9 (by decide) (by decide))) a1 hl
    refine ⟨μ', b1, fun a h0 h10 => by rw [b2 a h0 h10, a2 a h0 h10], fun k hk => by rw [b3 k hk, a3 k hk], ?_⟩
    unfold l_Md_addTree_2 f_Md_addTree_2
    rw [ck_n ht (by omega), nI_clamp (by omega), hx.1, if_neg (nI_ge (by omega) (by omega)), l_200, pk_mul, nI_add, ck_n (by omega) (by omega), nI_clamp (by omega), hx.2.2 i (by omega), a4, b1_some, nm_d, nI_1]
    exact b4
theorem q_addTree {N : Nat} (hN : 201 ≤ N) {μ : Nat → Nat → Int32} {t : Nat} {x d : List Int32} (ht : t < 1872) (hx : MT μ t x) (hd : MD μ d) (hl : d.length + x.length ≤ 1000) : ∃ μ', MD μ' (d ++ x) ∧ (∀ a, a ≠ 0 → a ≠ 10 → μ' a = μ a) ∧ (∀ k, k ≠ 19 → μ' 0 k = μ 0 k) ∧ m_Md_addTree N μ (nI t) = some μ' := by
  have x2 := hx.2.1
  obtain ⟨μ', b1, b2, b3, b4⟩ := q_addTree_2 (N := N) ht (fun s_self => f_Md_addTree_34 N s_self) x.length 0 N μ d (by omega) (by omega) hx (by simpa using hd) hl
  refine ⟨μ', b1, b2, b3, ?_⟩
  unfold m_Md_addTree f_Md_addTree_0
  rw [← nI_0]
  exact b4
