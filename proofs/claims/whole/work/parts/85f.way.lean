/-! one way of a rule, in the model -/
def Ft (c s0 : Nat) (μ μ' : Nat → Nat → Int32) : Prop := (∀ b, b ≠ 0 → b ≠ 8 → b ≠ 9 → b ≠ 10 → b ≠ 16 → μ' b = μ b) ∧ (∀ k, k ≠ 19 → μ' 0 k = μ 0 k) ∧ (∀ s, s ≠ s0 → μ' 16 s = μ 16 s) ∧ (∀ z, z ≠ 2 * c → z ≠ 2 * c + 1 → μ' 8 z = μ 8 z) ∧ ∀ z, (∀ k, k < 400 → z ≠ 400 * c + k) → μ' 9 z = μ 9 z
theorem Ft.refl (c s0 : Nat) (μ : Nat → Nat → Int32) : Ft c s0 μ μ := ⟨fun _ _ _ _ _ _ => rfl, fun _ _ => rfl, fun _ _ => rfl, fun _ _ _ => rfl, fun _ _ => rfl⟩
theorem Ft.trans {c s0 : Nat} {μ μ' μ'' : Nat → Nat → Int32} (h : Ft c s0 μ μ') (k : Ft c s0 μ' μ'') : Ft c s0 μ μ'' :=
  ⟨fun b a1 a2 a3 a4 a5 => by rw [k.1 b a1 a2 a3 a4 a5, h.1 b a1 a2 a3 a4 a5], fun z hz => by rw [k.2.1 z hz, h.2.1 z hz], fun s hs => by rw [k.2.2.1 s hs, h.2.2.1 s hs], fun z h1 h2 => by rw [k.2.2.2.1 z h1 h2, h.2.2.2.1 z h1 h2], fun z hz => by rw [k.2.2.2.2 z hz, h.2.2.2.2 z hz]⟩
theorem MP.ft {μ μ' : Nat → Nat → Int32} {c c' s0 : Nat} {p : List (List Int32)} (h : MP μ c p) (k : Ft c' s0 μ μ') (hn : c ≠ c') : MP μ' c p := by
  obtain ⟨h1, h2, ⟨a1, a2, a3⟩, ⟨b1, b2, b3⟩⟩ := h
  refine ⟨h1, h2, ⟨by rw [k.2.2.2.1 _ (by omega) (by omega)]; exact a1, a2, fun q hq => ?_⟩, ⟨by rw [k.2.2.2.1 _ (by omega) (by omega)]; exact b1, b2, fun q hq => ?_⟩⟩
  · rw [k.2.2.2.2 _ (fun z hz => by omega)]
    exact a3 q hq
  · rw [k.2.2.2.2 _ (fun z hz => by omega)]
    exact b3 q hq
theorem MP.same {μ μ' : Nat → Nat → Int32} {c : Nat} {p : List (List Int32)} (h : MP μ c p) (e8 : μ' 8 = μ 8) (e9 : μ' 9 = μ 9) : MP μ' c p :=
  ⟨h.1, h.2.1, h.2.2.1.keep e8 e9, h.2.2.2.keep e8 e9⟩
/-- a draft added alone -/
theorem Ft.draft {c s0 : Nat} {μ μ' : Nat → Nat → Int32} (h1 : ∀ a, a ≠ 0 → a ≠ 10 → μ' a = μ a) (h2 : ∀ k, k ≠ 19 → μ' 0 k = μ 0 k) : Ft c s0 μ μ' :=
  ⟨fun b b0 _ _ b10 _ => h1 b b0 b10, h2, fun s _ => by rw [h1 16 (by decide) (by decide)], fun z _ _ => by rw [h1 8 (by decide) (by decide)], fun z _ => by rw [h1 9 (by decide) (by decide)]⟩
theorem Wc.ft {c s0 : Nat} {μ μ' : Nat → Nat → Int32} (h : Wc μ μ' c) : Ft c s0 μ μ' :=
  ⟨fun b _ b8 b9 _ _ => h.1 b b8 b9, fun k _ => by rw [h.1 0 (by decide) (by decide)], fun s _ => by rw [h.1 16 (by decide) (by decide)], h.2.1, h.2.2⟩
theorem q_clear (μ : Nat → Nat → Int32) : MD (st2 μ 0 19 0) [] := ⟨by rw [st2_s]; rfl, by simp, fun k hk => by simp at hk⟩
/-- the parts' cells, as the model finds them -/
def Pz (μ : Nat → Nat → Int32) (m : Nat) (cs : Nat → Nat) : Prop := ∀ μ' : Nat → Nat → Int32, (∀ b, b ≠ 0 → b ≠ 8 → b ≠ 9 → b ≠ 10 → b ≠ 16 → μ' b = μ b) → ∀ k, k < m → m_Md_part μ' (nI k) = some (nI (cs k))
theorem Pz.ft {c s0 m : Nat} {cs : Nat → Nat} {μ μ' : Nat → Nat → Int32} (h : Pz μ m cs) (k : Ft c s0 μ μ') : Pz μ' m cs :=
  fun μ'' e q hq => h μ'' (fun b b0 b8 b9 b10 b16 => by rw [e b b0 b8 b9 b10 b16, k.1 b b0 b8 b9 b10 b16]) q hq
theorem q_way_6 {N : Nat} {μ : Nat → Nat → Int32} {G : Gm} (hR : gR G ≤ 30) {r : Nat} (hr : r < gR G) {cs : Nat → Nat} {ys : Nat → List Int32} (h26 : μ 0 26 = nI (dv (gry G r)).length) (h4 : (dv (gry G r)).length ≤ 4) (hz : Pz μ (dv (gry G r)).length cs) (hc : ∀ k, k < (dv (gry G r)).length → cs k < 936 ∧ ∃ v, μ 7 (cs k) = mW v ∧ Cnt (Sy G (sX G ((dv (gry G r)).getD k 0)) (ys k)) v) (i j : Int32) (kx : Int32 → Option (Nat → Nat → Int32)) :
    ∀ (d k n pr : Nat), k + d = (dv (gry G r)).length → d < n → Cnt (Pr G ((dv (gry G r)).take k) ((List.range k).map ys)) pr → ∃ pr', Cnt (Pr G (dv (gry G r)) ((List.range (dv (gry G r)).length).map ys)) pr' ∧ l_Md_takeWay_6 N μ (nI r) i j kx n (mW pr) (nI k) = kx (mW pr') := by
  intro d
  induction d with
  | zero =>
    intro k n pr hk hn hp
    obtain ⟨n, rfl⟩ : ∃ m, n = m + 1 := ⟨n - 1, by omega⟩
    have : k = (dv (gry G r)).length := by omega
    subst this
    rw [List.take_length] at hp
    refine ⟨pr, hp, ?_⟩
    unfold l_Md_takeWay_6 f_Md_takeWay_6
    rw [h26, if_pos (nI_le (Nat.le_refl _) (by omega))]
  | succ d ih =>
    intro k n pr hk hn hp
    obtain ⟨n, rfl⟩ : ∃ m, n = m + 1 := ⟨n - 1, by omega⟩
    obtain ⟨c1, v, c2, c3⟩ := hc k (by omega)
    have hc2 : Cnt (Pr G ((dv (gry G r)).take (k + 1)) ((List.range (k + 1)).map ys)) (wtimes pr v) := by
      rw [take_snoc (show k < (dv (gry G r)).length by omega), List.range_succ, List.map_append]
      refine (hp.prod c3 ?_).congr (fun e => ?_)
      · intro x x' y y' h1 h2 _ _ he
        obtain ⟨q1, _, q3⟩ := Pr_pre hR h1 h2 he
        exact ⟨q1, q3⟩
      · exact (Pr_snoc (by simp; omega)).symm
    obtain ⟨pr', g1, g2⟩ := ih (k + 1) n (wtimes pr v) (by omega) (by omega) hc2
    refine ⟨pr', g1, ?_⟩
    unfold l_Md_takeWay_6 f_Md_takeWay_6
    rw [h26, if_neg (nI_ge (by omega) (by omega)), hz μ (fun _ _ _ _ _ _ => rfl) k (by omega), b1_some, ck_n c1 (by omega), nI_clamp (by omega), c2, q_product hp.le c3.le, b1_some, nm_d, nI_1]
    exact g2
theorem q_way_127 {N : Nat} (hN : 201 ≤ N) {m o : Nat} {cs : Nat → Nat} {pa : Nat → List (List Int32)} (hm : m ≤ 4) (hcs : ∀ k, k < m → cs k < 936) (v1 v2 v3 : Int32) (μ0 : Nat → Nat → Int32) (hpa : ∀ k, k < m → MP μ0 (cs k) (pa k)) (hz : Pz μ0 m cs) (hl : ∀ k, k < m → ((pa k).getD 0 []).length ≤ 200 ∧ ((pa k).getD 1 []).length ≤ 200) (hd0 : Int32) (kx : (Nat → Nat → Int32) → Option (Nat → Nat → Int32)) :
    o ≤ 4 → ∀ (d k n : Nat) (μ : Nat → Nat → Int32), k + d = m → d < n → μ0 0 26 = nI m → (∀ a, a ≠ 0 → a ≠ 10 → μ a = μ0 a) → (∀ z, z ≠ 19 → μ 0 z = μ0 0 z) → MD μ (hd0 :: cat (fun q => (pa q).getD (if q + 1 = o then 1 else 0) []) k) →
      ∃ μ', (∀ a, a ≠ 0 → a ≠ 10 → μ' a = μ0 a) ∧ (∀ z, z ≠ 19 → μ' 0 z = μ0 0 z) ∧ MD μ' (hd0 :: cat (fun q => (pa q).getD (if q + 1 = o then 1 else 0) []) m) ∧ l_Md_takeWay_127 N v1 v2 v3 (dn o) 1 kx n μ (nI k) = kx μ' := by
  intro ho4 d
  induction d with
  | zero =>
    intro k n μ hk hn h26 h1 h2 h3
    obtain ⟨n, rfl⟩ : ∃ m, n = m + 1 := ⟨n - 1, by omega⟩
    have : k = m := by omega
    subst this
    refine ⟨μ, h1, h2, h3, ?_⟩
    unfold l_Md_takeWay_127 f_Md_takeWay_127
    rw [h2 26 (by decide), h26, if_pos (nI_le (Nat.le_refl _) (by omega))]
  | succ d ih =>
    intro k n μ hk hn h26 h1 h2 h3
    obtain ⟨n, rfl⟩ : ∃ m, n = m + 1 := ⟨n - 1, by omega⟩
    have hkm : k < m := by omega
    have hck := hcs k hkm
    obtain ⟨p1, p2, p3, p4⟩ := hpa k hkm
    have hlk := hl k hkm
    have hcat : (cat (fun q => (pa q).getD (if q + 1 = o then 1 else 0) []) k).length ≤ 200 * k := by
      have key : ∀ z, z ≤ k → (cat (fun q => (pa q).getD (if q + 1 = o then 1 else 0) []) z).length ≤ 200 * z := by
        intro z
        induction z with
        | zero => intro _; simp [cat]
        | succ z ihz =>
          intro hz'
          have i1 := ihz (by omega)
          have i2 := hl z (by omega)
          show (cat _ z ++ (pa z).getD (if z + 1 = o then 1 else 0) []).length ≤ _
          rw [List.length_append]
          by_cases q : z + 1 = o
          · rw [if_pos q]; omega
          · rw [if_neg q]; omega
      exact key k (Nat.le_refl _)
    obtain ⟨X, hX⟩ : ∃ X, X = l_Md_takeWay_127 N v1 v2 v3 (dn o) 1 kx (n + 1) μ (nI k) := ⟨_, rfl⟩
    rw [← hX]
    have step : X = f_Md_takeWay_127 N (l_Md_takeWay_127 N v1 v2 v3 (dn o) 1 kx n) kx μ v1 v2 v3 (dn o) 1 (nI k) := hX
    unfold f_Md_takeWay_127 at step
    rw [h2 26 (by decide), h26, if_neg (nI_ge hkm (by omega)), if_neg (by decide), hz μ (fun b b0 _ _ b10 _ => h1 b b0 b10) k hkm, b1_some] at step
    have fin : ∀ (t : Nat) (x : List Int32), t < 1872 → MT μ0 t x → x = (pa k).getD (if k + 1 = o then 1 else 0) [] → X = bd1 (m_Md_addTree N μ (nI t)) (fun s_self_9 => l_Md_takeWay_127 N v1 v2 v3 (dn o) 1 kx n s_self_9 (nI (k + 1))) → ∃ μ', (∀ a, a ≠ 0 → a ≠ 10 → μ' a = μ0 a) ∧ (∀ z, z ≠ 19 → μ' 0 z = μ0 0 z) ∧ MD μ' (hd0 :: cat (fun q => (pa q).getD (if q + 1 = o then 1 else 0) []) m) ∧ X = kx μ' := by
      intro t x ht hx ex eX
      have hx2 := hx.2.1
      obtain ⟨μ1, b1, b2, b3, b4⟩ := q_addTree hN ht (hx.keep (h1 8 (by decide) (by decide)) (h1 9 (by decide) (by decide))) h3 (by simp only [List.length_cons]; omega)
      obtain ⟨μ', g1, g2, g3, g4⟩ := ih (k + 1) n μ1 (by omega) (by omega) h26 (fun a a0 a10 => by rw [b2 a a0 a10, h1 a a0 a10]) (fun z hz' => by rw [b3 z hz', h2 z hz']) (by
        show MD μ1 (hd0 :: (cat _ k ++ (pa k).getD (if k + 1 = o then 1 else 0) []))
        rw [← ex]
        exact b1)
      exact ⟨μ', g1, g2, g3, by rw [eX, b4, b1_some]; exact g4⟩
    by_cases c : k + 1 = o
    · have e1 : nI k = dn o := by rw [← c, dn_s]
      rw [if_pos e1, l_2, pk_mul, nI_1] at step
      refine fin (2 * cs k + 1) _ (by omega) p4 (by rw [if_pos c]) ?_
      rw [step]
      simp only [nm_d, nI_1]
    · have e1 : ¬ nI k = dn o := by
        intro e
        match o, c, e, ho4 with
        | 0, _, e, _ =>
          rw [dn_0] at e
          exact nI_neg (by omega) e
        | o + 1, c, e, ho4 =>
          rw [dn_s] at e
          have := nI_inj (by omega) (by omega) e
          omega
      rw [if_neg e1, l_2, pk_mul, ← nI_0, nI_add, Nat.add_zero] at step
      refine fin (2 * cs k) _ (by omega) p3 (by rw [if_neg c]) ?_
      rw [step]
      simp only [nm_d, nI_1]
