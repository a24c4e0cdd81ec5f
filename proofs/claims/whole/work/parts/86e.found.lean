/-! ways by unit rules, in the model -/
theorem q_str147 {N n0 : Nat} (hn0 : n0 ≤ 6) (μ0 : Nat → Nat → Int32) (h01 : μ0 0 1 = nI n0) (v1 v2 : Int32) (kx : (Nat → Nat → Int32) → Option (Nat → Nat → Int32)) : ∀ (d s n : Nat) (μ : Nat → Nat → Int32), s + d = n0 → d < n → (∀ b, b ≠ 17 → μ b = μ0 b) → (∀ t, t < s → μ 17 t = 0) → ∃ μ', (∀ b, b ≠ 17 → μ' b = μ0 b) ∧ (∀ t, t < n0 → μ' 17 t = 0) ∧ l_Md_takeStretch_147 N v1 v2 kx n μ (nI s) = kx μ' := by
  intro d
  induction d with
  | zero =>
    intro s n μ hs hn h1 h2
    obtain ⟨n, rfl⟩ : ∃ m, n = m + 1 := ⟨n - 1, by omega⟩
    have : s = n0 := by omega
    subst this
    refine ⟨μ, h1, h2, ?_⟩
    unfold l_Md_takeStretch_147 f_Md_takeStretch_147
    rw [h1 0 (by decide), h01, if_pos (nI_le (Nat.le_refl _) (by omega))]
  | succ d ih =>
    intro s n μ hs hn h1 h2
    obtain ⟨n, rfl⟩ : ∃ m, n = m + 1 := ⟨n - 1, by omega⟩
    obtain ⟨μ', g1, g2, g3⟩ := ih (s + 1) n (st2 μ 17 s 0) (by omega) (by omega) (fun b hb => by rw [st2_a _ _ _ hb]; exact h1 b hb) (fun t ht => by
      by_cases e : t = s
      · subst e; exact st2_s _ _ _ _
      · rw [st2_k _ _ _ e]; exact h2 t (by omega))
    refine ⟨μ', g1, g2, ?_⟩
    unfold l_Md_takeStretch_147 f_Md_takeStretch_147
    rw [h1 0 (by decide), h01, if_neg (nI_ge (by omega) (by omega)), ck_n (by omega) (by omega), nm_d, nI_clamp (by omega), nm_d, nI_1]
    exact g3
theorem q_str202 {N : Nat} {G : Gm} {μ : Nat → Nat → Int32} (hG : MdG μ G) {A : Nat → List Int32 → Prop} {y : List Int32} (hf : ∀ t, t < gS G → ∃ v, μ 17 t = mW v ∧ Cnt (A t) v) {s : Nat} (hs : s < gS G) (v1 v2 v3 : Int32) (kx : Int32 → Option (Nat → Nat → Int32)) : ∀ (d q n v : Nat), q + d = gR G → d < n → Cnt (Rd G A q s y) v → ∃ v', Cnt (Rd G A (gR G) s y) v' ∧ l_Md_takeStretch_202 N μ v1 v2 v3 (nI s) kx n (mW v) (nI q) = kx (mW v') := by
  have hR := hG.1.2.2.1
  have hV := hG.1.2.1
  have hS := hG.1.1
  intro d
  induction d with
  | zero =>
    intro q n v hq hn hc
    obtain ⟨n, rfl⟩ : ∃ m, n = m + 1 := ⟨n - 1, by omega⟩
    have : q = gR G := by omega
    subst this
    refine ⟨v, hc, ?_⟩
    unfold l_Md_takeStretch_202 f_Md_takeStretch_202
    rw [hG.2.2.2.1, if_pos (nI_le (Nat.le_refl _) (by omega))]
  | succ d ih =>
    intro q n v hq hn hc
    obtain ⟨n, rfl⟩ : ∃ m, n = m + 1 := ⟨n - 1, by omega⟩
    have hqR : q < gR G := by omega
    obtain ⟨X, hX⟩ : ∃ X, X = l_Md_takeStretch_202 N μ v1 v2 v3 (nI s) kx (n + 1) (mW v) (nI q) := ⟨_, rfl⟩
    rw [← hX]
    have step : X = f_Md_takeStretch_202 N (l_Md_takeStretch_202 N μ v1 v2 v3 (nI s) kx n) kx μ v1 v2 v3 (nI s) (mW v) (nI q) := hX
    unfold f_Md_takeStretch_202 at step
    rw [hG.2.2.2.1, if_neg (nI_ge hqR (by omega))] at step
    rcases q_isPlain hG hqR with ⟨hu, e⟩ | ⟨hu, e⟩
    · have hrs := (hG.1.2.2.2.2 q hqR).1
      rw [e, b1_some, if_neg (by decide), ck_n (by omega) (by omega), nI_clamp (by omega), (hG.2.2.2.2.2 q hqR).1] at step
      by_cases es : grs G q = s
      · obtain ⟨z, hz, e4, e1⟩ := q_unit hG hqR hu
        have hus := uS_lt hG.1 hqR hu
        obtain ⟨w, w1, w2⟩ := hf _ hus
        rw [if_pos (by rw [es]), l_8, pk_mul, ck_n (by omega) (by omega), nI_clamp (by omega), e4, vS_back (by omega), ck_n (by omega) (by omega), nI_clamp (by omega), e1, ck_n (by omega) (by omega), nI_clamp (by omega), w1, q_sum hc.le w2.le, b1_some, nm_d, nI_1] at step
        obtain ⟨v', g1, g2⟩ := ih (q + 1) n (wplus v w) (by omega) (by omega) (Rd_next hR hc hqR hu es w2)
        exact ⟨v', g1, by rw [step]; exact g2⟩
      · rw [if_neg (fun h => es (nI_inj (by omega) (by omega) h)), nm_d, nI_1] at step
        obtain ⟨v', g1, g2⟩ := ih (q + 1) n v (by omega) (by omega) (Rd_skip hc (fun h => es h.2))
        exact ⟨v', g1, by rw [step]; exact g2⟩
    · rw [e, b1_some, if_pos rfl, nm_d, nI_1] at step
      obtain ⟨v', g1, g2⟩ := ih (q + 1) n v (by omega) (by omega) (Rd_skip hc (fun h => hu h.1))
      exact ⟨v', g1, by rw [step]; exact g2⟩
/-- what is found after k rounds at least -/
def lo (G : Gm) (k t : Nat) (y c : List Int32) : Prop := ∃ k', k = k' + 1 ∧ Ua G k' t y c
def RM (G : Gm) (y : List Int32) (w : Nat → Nat) (k s : Nat) (μ : Nat → Nat → Int32) (A : Nat → List Int32 → Prop) : Prop := ∀ t, t < gS G → (∃ v, μ 17 t = mW v ∧ Cnt (A t) v) ∧ (∀ c, lo G (if t < s then k + 1 else k) t y c → A t c) ∧ (∀ c, A t c → Sy G t y c) ∧ ((0 < k ∨ t < s) → (∃ z, z < gS G ∧ Ed G w t z) → μ 17 t = mW 1000002)
theorem lo_Rd {G : Gm} (h : GOK G) {A : Nat → List Int32 → Prop} {k s : Nat} {y c : List Int32} (hA : ∀ t, t < gS G → ∀ c, lo G k t y c → A t c) (hc : lo G (k + 1) s y c) : Rd G A (gR G) s y c := by
  obtain ⟨k', e, u, b, h1, h2, h3, h4⟩ := hc
  have : k' = k := by omega
  subst this
  match u, h1, h2, h3, h4 with
  | [], _, _, h3, h4 => exact Or.inl (by rw [h4]; exact h3)
  | r :: u, h1, h2, h3, h4 =>
    simp only [List.length_cons] at h2
    obtain ⟨k'', rfl⟩ : ∃ z, k' = z + 1 := ⟨k' - 1, by omega⟩
    exact Or.inr ⟨r, h1.1, h1.1, h1.2.1, h1.2.2.1, u.map nI ++ b, hA _ (uS_lt h h1.1 h1.2.1) _ ⟨k'', rfl, u, b, h1.2.2.2, by omega, h3, rfl⟩, by rw [h4]; rfl⟩
theorem q_str181 {N : Nat} (hN : 32 ≤ N) {G : Gm} {w : Nat → Nat} {y : List Int32} (hB : ∀ d, d < gS G → Cnt (Bs G d y) (w d)) {k : Nat} (v1 v2 v3 : Int32) (μ0 : Nat → Nat → Int32) (hG : MdG μ0 G) (hC : CmOK μ0 G) (hw : ∀ d, d < gS G → μ0 16 d = mW (w d)) (kx : (Nat → Nat → Int32) → Option (Nat → Nat → Int32)) : ∀ (d s n : Nat) (μ : Nat → Nat → Int32) (A : Nat → List Int32 → Prop), s + d = gS G → d < n → (∀ b, b ≠ 17 → μ b = μ0 b) → RM G y w k s μ A → ∃ μ' A', (∀ b, b ≠ 17 → μ' b = μ0 b) ∧ RM G y w (k + 1) 0 μ' A' ∧ l_Md_takeStretch_181 N v1 v2 v3 kx n μ (nI s) = kx μ' := by
  have hR := hG.1.2.2.1
  have hS := hG.1.1
  intro d
  induction d with
  | zero =>
    intro s n μ A hs hn h1 h2
    obtain ⟨n, rfl⟩ : ∃ m, n = m + 1 := ⟨n - 1, by omega⟩
    have : s = gS G := by omega
    subst this
    refine ⟨μ, A, h1, fun t ht => ?_, ?_⟩
    · obtain ⟨a1, a2, a3, a4⟩ := h2 t ht
      rw [if_pos ht] at a2
      exact ⟨a1, fun c hc => a2 c (by rw [if_neg (by omega)] at hc; exact hc), a3, fun _ h => a4 (Or.inr ht) h⟩
    · unfold l_Md_takeStretch_181 f_Md_takeStretch_181
      rw [h1 0 (by decide), hG.2.1, if_pos (nI_le (Nat.le_refl _) (by omega))]
  | succ d ih =>
    intro s n μ A hs hn h1 h2
    obtain ⟨n, rfl⟩ : ∃ m, n = m + 1 := ⟨n - 1, by omega⟩
    have hsS : s < gS G := by omega
    have hGμ : MdG μ G := hG.fq (fun z _ => by rw [h1 0 (by decide)]) (fun b hb => h1 b (by omega))
    have hCμ : CmOK μ G := hC.of (h1 18 (by decide))
    obtain ⟨v', g1, g2⟩ := q_str202 (N := N) hGμ (A := A) (y := y) (fun t ht => (h2 t ht).1) hsS v1 v2 v3 (fun v5 => f_Md_takeStretch_272 N (l_Md_takeStretch_181 N v1 v2 v3 kx n) kx μ v1 v2 v3 (nI s) v5) (gR G) 0 N (w s) (by omega) (by omega) ((hB s hsS).congr (fun e => ⟨fun h => Or.inl h, fun h => h.elim id (fun ⟨r, r1, _⟩ => by omega)⟩))
    obtain ⟨X, hX⟩ : ∃ X, X = l_Md_takeStretch_181 N v1 v2 v3 kx (n + 1) μ (nI s) := ⟨_, rfl⟩
    rw [← hX]
    have step : X = f_Md_takeStretch_181 N (l_Md_takeStretch_181 N v1 v2 v3 kx n) kx μ v1 v2 v3 (nI s) := hX
    unfold f_Md_takeStretch_181 at step
    rw [nI_0] at g2
    rw [h1 0 (by decide), hG.2.1, if_neg (nI_ge hsS (by omega)), ck_n (by omega) (by omega), nm_d, nI_clamp (by omega), h1 16 (by decide), hw s hsS, g2] at step
    unfold f_Md_takeStretch_272 at step
    -- one sort done
    have fin : ∀ (x : Nat) (B : List Int32 → Prop), Cnt B x → (∀ c, lo G (k + 1) s y c → B c) → (∀ c, B c → Sy G s y c) → ((∃ z, z < gS G ∧ Ed G w s z) → x = 1000002) → X = l_Md_takeStretch_181 N v1 v2 v3 kx n (st2 μ 17 s (mW x)) (nI (s + 1)) → ∃ μ' A', (∀ b, b ≠ 17 → μ' b = μ0 b) ∧ RM G y w (k + 1) 0 μ' A' ∧ X = kx μ' := by
      intro x B b1 b2 b3 b4 he
      obtain ⟨μ', A', x1, x2, x3⟩ := ih (s + 1) n (st2 μ 17 s (mW x)) (fun t => if t = s then B else A t) (by omega) (by omega) (fun b hb => by rw [st2_a _ _ _ hb]; exact h1 b hb) (fun t ht => by
        by_cases e : t = s
        · subst e
          simp only [if_true]
          refine ⟨⟨x, st2_s _ _ _ _, b1⟩, fun c hc => b2 c (by rw [if_pos (by omega)] at hc; exact hc), b3, fun _ h => by rw [st2_s, b4 h]⟩
        · simp only [if_neg e]
          obtain ⟨a1, a2, a3, a4⟩ := h2 t ht
          rw [st2_k _ _ _ e]
          refine ⟨a1, fun c hc => a2 c ?_, a3, fun h => a4 (by omega)⟩
          by_cases q : t < s
          · rw [if_pos q]
            rw [if_pos (by omega)] at hc
            exact hc
          · rw [if_neg q]
            rw [if_neg (by omega)] at hc
            exact hc)
      exact ⟨μ', A', x1, x2, by rw [he]; exact x3⟩
    have hloA : ∀ t, t < gS G → ∀ c, lo G k t y c → A t c := by
      intro t ht c hc
      refine (h2 t ht).2.1 c ?_
      by_cases q : t < s
      · rw [if_pos q]
        obtain ⟨k', e, hu⟩ := hc
        exact ⟨k, rfl, Ua_mono (by omega) hu⟩
      · rw [if_neg q]
        exact hc
    rcases q_isEndless (N := N) (by omega) hS (by rw [h1 0 (by decide)]; exact hG.2.1) hCμ hsS (w := w) (fun d hd => ⟨(hB d hd).le, by rw [h1 16 (by decide)]; exact hw d hd⟩) with ⟨⟨z, z1, z2⟩, e⟩ | ⟨hne, e⟩
    · rw [e, b1_some, if_neg (by decide), ck_n (by omega) (by omega), nm_d, nI_clamp (by omega), nm_d, nI_1, ← mW_E] at step
      exact fin 1000002 (Sy G s y) (Cnt.inf (Ed_inf hB z1 z2)) (fun c ⟨k', _, hc⟩ => Ua_Sy hc) (fun c hc => hc) (fun _ => rfl) step
    · rw [e, b1_some, if_pos rfl, ck_n (by omega) (by omega), nm_d, nI_clamp (by omega), nm_d, nI_1] at step
      exact fin v' (Rd G A (gR G) s y) g1 (fun c hc => lo_Rd hG.1 hloA hc) (fun c hc => Rd_hi (fun r r1 r2 c hc => (h2 _ (uS_lt hG.1 r1 r2)).2.2.1 c hc) hc) (fun h => absurd h hne) step
theorem q_str170 {N : Nat} (hN : 32 ≤ N) {G : Gm} {w : Nat → Nat} {y : List Int32} (hB : ∀ d, d < gS G → Cnt (Bs G d y) (w d)) (v1 v2 : Int32) (μ0 : Nat → Nat → Int32) (hG : MdG μ0 G) (hC : CmOK μ0 G) (hw : ∀ d, d < gS G → μ0 16 d = mW (w d)) (kx : (Nat → Nat → Int32) → Option (Nat → Nat → Int32)) : ∀ (d k n : Nat) (μ : Nat → Nat → Int32) (A : Nat → List Int32 → Prop), k + d = gS G + 1 → d < n → (∀ b, b ≠ 17 → μ b = μ0 b) → RM G y w k 0 μ A → ∃ μ' A', (∀ b, b ≠ 17 → μ' b = μ0 b) ∧ RM G y w (gS G + 1) 0 μ' A' ∧ l_Md_takeStretch_170 N v1 v2 kx n μ (nI k) = kx μ' := by
  have hS := hG.1.1
  intro d
  induction d with
  | zero =>
    intro k n μ A hk hn h1 h2
    obtain ⟨n, rfl⟩ : ∃ m, n = m + 1 := ⟨n - 1, by omega⟩
    have : k = gS G + 1 := by omega
    subst this
    refine ⟨μ, A, h1, h2, ?_⟩
    unfold l_Md_takeStretch_170 f_Md_takeStretch_170
    rw [h1 0 (by decide), hG.2.1, if_pos (of_eq_true (c_lt_t (by omega) (by omega)))]
  | succ d ih =>
    intro k n μ A hk hn h1 h2
    obtain ⟨n, rfl⟩ : ∃ m, n = m + 1 := ⟨n - 1, by omega⟩
    obtain ⟨μ1, A1, a1, a2, a3⟩ := q_str181 hN hB (k := k) v1 v2 (nI k) μ0 hG hC hw (fun s_self => f_Md_takeStretch_301 N (l_Md_takeStretch_170 N v1 v2 kx n) kx s_self v1 v2 (nI k)) (gS G) 0 N μ A (by omega) (by omega) h1 h2
    obtain ⟨μ', A', b1, b2, b3⟩ := ih (k + 1) n μ1 A1 (by omega) (by omega) a1 a2
    refine ⟨μ', A', b1, b2, ?_⟩
    unfold l_Md_takeStretch_170 f_Md_takeStretch_170
    rw [nI_0] at a3
    rw [h1 0 (by decide), hG.2.1, if_neg (of_eq_false (c_lt_f (by omega) (by omega))), a3]
    unfold f_Md_takeStretch_301
    rw [nm_d, nI_1]
    exact b3
theorem q_str309 {N n0 i j : Nat} (hn0 : n0 ≤ 6) (hij : i < j) (hj : j ≤ 12) (μ0 : Nat → Nat → Int32) (h01 : μ0 0 1 = nI n0) (kx : (Nat → Nat → Int32) → Option (Nat → Nat → Int32)) : ∀ (d s n : Nat) (μ : Nat → Nat → Int32), s + d = n0 → d < n → (∀ b, b ≠ 7 → μ b = μ0 b) → (∀ t, t < s → μ 7 (mO t i j) = μ0 17 t) → (∀ c, Oc i j c → μ 7 c = μ0 7 c) → ∃ μ', (∀ b, b ≠ 7 → μ' b = μ0 b) ∧ (∀ t, t < n0 → μ' 7 (mO t i j) = μ0 17 t) ∧ (∀ c, Oc i j c → μ' 7 c = μ0 7 c) ∧ l_Md_takeStretch_309 N (nI i) (nI j) kx n μ (nI s) = kx μ' := by
  intro d
  induction d with
  | zero =>
    intro s n μ hs hn h1 h2 h3
    obtain ⟨n, rfl⟩ : ∃ m, n = m + 1 := ⟨n - 1, by omega⟩
    have : s = n0 := by omega
    subst this
    refine ⟨μ, h1, h2, h3, ?_⟩
    unfold l_Md_takeStretch_309 f_Md_takeStretch_309
    rw [h1 0 (by decide), h01, if_pos (nI_le (Nat.le_refl _) (by omega))]
  | succ d ih =>
    intro s n μ hs hn h1 h2 h3
    obtain ⟨n, rfl⟩ : ∃ m, n = m + 1 := ⟨n - 1, by omega⟩
    have hc := mO_lt (show s < 6 by omega) (show i < 12 by omega) hj
    obtain ⟨μ', g1, g2, g3, g4⟩ := ih (s + 1) n (st2 μ 7 (mO s i j) (μ 17 s)) (by omega) (by omega) (fun b hb => by rw [st2_a _ _ _ hb]; exact h1 b hb) (fun t ht => by
      by_cases e : t = s
      · subst e
        rw [st2_s, h1 17 (by decide)]
      · rw [st2_k _ _ _ (fun q => e (mO_inj (by omega) (by omega) hj hj q).1)]
        exact h2 t (by omega)) (fun c hc' => by rw [st2_k _ _ _ (hc' s (by omega))]; exact h3 c hc')
    refine ⟨μ', g1, g2, g3, ?_⟩
    unfold l_Md_takeStretch_309 f_Md_takeStretch_309
    rw [h1 0 (by decide), h01, if_neg (nI_ge (by omega) (by omega)), q_cellOf, b1_some, ck_n (by omega) (by omega), ck_n (by omega) (by omega), nm_d, nI_clamp (by omega), nI_clamp (by omega), nm_d, nI_1]
    exact g4
