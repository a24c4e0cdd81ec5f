/-! the model lays a rule's symbols over a stretch, with given lengths -/
def Wk (a : Nat → Int32) (el : Nat → Nat) (j : Nat) : List Int32 → Nat → Nat → Prop
  | [], _, p => p = j
  | x :: xs, q, p => if x < 0 then p + el q ≤ j ∧ Wk a el j xs (q + 1) (p + el q) else p < j ∧ a p = x ∧ Wk a el j xs q (p + 1)
/-- where variable number z begins -/
def So (el : Nat → Nat) : List Int32 → Nat → Nat → Nat → Nat
  | [], _, p, _ => p
  | x :: xs, q, p, z => if x < 0 then (if z = q then p else So el xs (q + 1) (p + el q) z) else So el xs q (p + 1) z
theorem vl_cons_n {x : Int32} {xs : List Int32} (h : x < 0) : vl (x :: xs) = x :: vl xs := List.filter_cons_of_pos (by simpa using h)
theorem vl_cons_p {x : Int32} {xs : List Int32} (h : ¬ x < 0) : vl (x :: xs) = vl xs := List.filter_cons_of_neg (by simpa using h)
theorem q_comes_12 {N : Nat} {r : Nat} {l : List Int32} {el : Nat → Nat} {j M : Nat} (hj : j ≤ 12) (hM : M ≤ 4) (hMl : (vl l).length = M) (hel : ∀ q, q < M → el q ≤ 12) (μ0 : Nat → Nat → Int32) (hr : MdR μ0 r l) (h11 : ∀ q, q < M → μ0 11 q = nI (el q)) (kx : (Nat → Nat → Int32) → Int32 → Int32 → Option (Int32 × (Nat → Nat → Int32))) :
    ∀ (d k n : Nat) (μ : Nat → Nat → Int32) (p : Nat), k + d = l.length → d < n → p ≤ j → (∀ b, b ≠ 12 → μ b = μ0 b) →
      ∃ μ' p' is, (∀ b, b ≠ 12 → μ' b = μ0 b) ∧ (∀ z, z < (vl (l.take k)).length → μ' 12 z = μ 12 z) ∧ p' ≤ 24 ∧ ((is = 1 ∧ (Wk (μ0 5) el j (l.drop k) (vl (l.take k)).length p ↔ p' = j) ∧ ∀ z, (vl (l.take k)).length ≤ z → z < M → μ' 12 z = nI (So el (l.drop k) (vl (l.take k)).length p z)) ∨ (is = 0 ∧ ¬ Wk (μ0 5) el j (l.drop k) (vl (l.take k)).length p)) ∧ l_Md_comesUpon_12 N (nI r) (nI j) kx n μ (nI p) (nI (vl (l.take k)).length) 1 (nI k) = kx μ' (nI p') is := by
  obtain ⟨r1, r2, r3, r4⟩ := hr
  -- nothing more is looked at
  have stop : ∀ (n k : Nat) (μ : Nat → Nat → Int32) (p q : Nat), k ≤ l.length → 0 < n → (∀ b, b ≠ 12 → μ b = μ0 b) → l_Md_comesUpon_12 N (nI r) (nI j) kx n μ (nI p) (nI q) 0 (nI k) = kx μ (nI p) 0 := by
    intro n k μ p q hk hn hμ
    obtain ⟨n, rfl⟩ : ∃ m, n = m + 1 := ⟨n - 1, by omega⟩
    unfold l_Md_comesUpon_12 f_Md_comesUpon_12
    rw [ck_n r1 (by omega)]
    by_cases c : μ 3 (Int32.toNatClampNeg (nI r)) ≤ nI k
    · rw [if_pos c]
    · rw [if_neg c, if_pos rfl]
  intro d
  induction d with
  | zero =>
    intro k n μ p hk hn hp hμ
    obtain ⟨n, rfl⟩ : ∃ m, n = m + 1 := ⟨n - 1, by omega⟩
    have : k = l.length := by omega
    subst this
    rw [List.drop_length, List.take_length, hMl]
    refine ⟨μ, p, 1, hμ, fun _ _ => rfl, by omega, Or.inl ⟨rfl, Iff.rfl, fun z h1 h2 => by omega⟩, ?_⟩
    unfold l_Md_comesUpon_12 f_Md_comesUpon_12
    rw [ck_n r1 (by omega), nI_clamp (by omega), hμ 3 (by decide), r2, if_pos (nI_le (Nat.le_refl _) (by omega))]
  | succ d ih =>
    intro k n μ p hk hn hp hμ
    obtain ⟨n, rfl⟩ : ∃ m, n = m + 1 := ⟨n - 1, by omega⟩
    have hkl : k < l.length := by omega
    have hdr : l.drop k = l.getD k 0 :: l.drop (k + 1) := drop_getD hkl
    have hvl := vl_take_len hkl
    have hle := vl_take_le l (k + 1)
    generalize hq : (vl (l.take k)).length = q at *
    obtain ⟨X, hX⟩ : ∃ X, X = l_Md_comesUpon_12 N (nI r) (nI j) kx (n + 1) μ (nI p) (nI q) 1 (nI k) := ⟨_, rfl⟩
    rw [← hX]
    have step : X = f_Md_comesUpon_12 N (l_Md_comesUpon_12 N (nI r) (nI j) kx n) kx μ (nI r) (nI j) (nI p) (nI q) 1 (nI k) := hX
    unfold f_Md_comesUpon_12 at step
    rw [ck_n r1 (by omega), nI_clamp (by omega), hμ 3 (by decide), r2, if_neg (nI_ge hkl (by omega)), if_neg (by decide), l_8, pk_mul, nI_add, ck_n (by omega) (by omega), nm_d, nI_clamp (by omega), hμ 4 (by decide), r4 k hkl] at step
    rw [hdr]
    by_cases neg : l.getD k 0 < 0
    · rw [if_pos neg] at hvl step
      have hqM : q < M := by omega
      have eW : Wk (μ0 5) el j (l.getD k 0 :: l.drop (k + 1)) q p ↔ (p + el q ≤ j ∧ Wk (μ0 5) el j (l.drop (k + 1)) (q + 1) (p + el q)) := by
        show (if l.getD k 0 < 0 then _ else _) ↔ _
        rw [if_pos neg]
      have eS : ∀ z, So el (l.getD k 0 :: l.drop (k + 1)) q p z = if z = q then p else So el (l.drop (k + 1)) (q + 1) (p + el q) z := by
        intro z
        show (if l.getD k 0 < 0 then _ else _) = _
        rw [if_pos neg]
      have heq := hel q hqM
      rw [ck_n (by omega) (by omega), nm_d, nI_clamp (by omega), ck_n (by omega) (by omega), nm_d, st2_aj _ _ _ _ (by decide), hμ 11 (by decide), h11 q hqM, nI_add, nm_d, nI_1, nm_d, nI_1, nm_d, nm_d] at step
      have hμ1 : ∀ b, b ≠ 12 → st2 μ 12 q (nI p) b = μ0 b := fun b hb => by rw [st2_a _ _ _ hb]; exact hμ b hb
      by_cases c : p + el q ≤ j
      · rw [if_neg (of_eq_false (c_lt_f c (by omega)))] at step
        obtain ⟨μ', p', is, g1, g2, g3, g4, g5⟩ := ih (k + 1) n (st2 μ 12 q (nI p)) (p + el q) (by omega) (by omega) c hμ1
        rw [hvl] at g2 g4 g5
        refine ⟨μ', p', is, g1, fun z hz => by rw [g2 z (by omega), st2_k _ _ _ (by omega)], g3, ?_, by rw [step]; exact g5⟩
        rcases g4 with ⟨a1, a2, a3⟩ | ⟨a1, a2⟩
        · refine Or.inl ⟨a1, ?_, fun z h1 h2 => ?_⟩
          · rw [eW, ← a2]
            exact ⟨fun h => h.2, fun h => ⟨c, h⟩⟩
          · rw [eS]
            by_cases e : z = q
            · subst e
              rw [if_pos rfl, g2 z (by omega), st2_s]
            · rw [if_neg e]
              exact a3 z (by omega) h2
        · exact Or.inr ⟨a1, fun h => a2 (eW.mp h).2⟩
      · rw [if_pos (of_eq_true (c_lt_t (by omega) (by omega))), stop n (k + 1) _ _ _ (by omega) (by omega) hμ1] at step
        exact ⟨_, p + el q, 0, hμ1, fun z hz => st2_k _ _ _ (by omega), by omega, Or.inr ⟨rfl, fun h => c (eW.mp h).1⟩, step⟩
    · rw [if_neg neg, Nat.add_zero] at hvl
      rw [if_neg neg] at step
      have eW : Wk (μ0 5) el j (l.getD k 0 :: l.drop (k + 1)) q p ↔ (p < j ∧ μ0 5 p = l.getD k 0 ∧ Wk (μ0 5) el j (l.drop (k + 1)) q (p + 1)) := by
        show (if l.getD k 0 < 0 then _ else _) ↔ _
        rw [if_neg neg]
      have eS : ∀ z, So el (l.getD k 0 :: l.drop (k + 1)) q p z = So el (l.drop (k + 1)) q (p + 1) z := by
        intro z
        show (if l.getD k 0 < 0 then _ else _) = _
        rw [if_neg neg]
      rw [nI_1, nI_1] at step
      by_cases c : j ≤ p
      · rw [if_pos (nI_le c (by omega)), nm_d, nm_d, stop n (k + 1) _ _ _ (by omega) (by omega) hμ] at step
        refine ⟨μ, p + 1, 0, hμ, fun _ _ => rfl, by omega, Or.inr ⟨rfl, fun h => ?_⟩, step⟩
        have := (eW.mp h).1
        omega
      · rw [if_neg (nI_ge (by omega) (by omega)), ck_n (by omega) (by omega), nI_clamp (by omega), hμ 5 (by decide)] at step
        by_cases e : μ0 5 p = l.getD k 0
        · rw [if_pos e, nm_d, nm_d] at step
          obtain ⟨μ', p', is, g1, g2, g3, g4, g5⟩ := ih (k + 1) n μ (p + 1) (by omega) (by omega) (by omega) hμ
          rw [hvl] at g2 g4 g5
          refine ⟨μ', p', is, g1, g2, g3, ?_, by rw [step]; exact g5⟩
          rcases g4 with ⟨a1, a2, a3⟩ | ⟨a1, a2⟩
          · refine Or.inl ⟨a1, ?_, fun z h1 h2 => by rw [eS]; exact a3 z h1 h2⟩
            rw [eW, ← a2]
            exact ⟨fun h => h.2.2, fun h => ⟨by omega, e, h⟩⟩
          · exact Or.inr ⟨a1, fun h => a2 (eW.mp h).2.2⟩
        · rw [if_neg e, nm_d, nm_d, stop n (k + 1) _ _ _ (by omega) (by omega) hμ] at step
          exact ⟨μ, p + 1, 0, hμ, fun _ _ => rfl, by omega, Or.inr ⟨rfl, fun h => e (eW.mp h).2.1⟩, step⟩
/-- the same symbols again -/
theorem q_comes_192 {N : Nat} {μ : Nat → Nat → Int32} {q o st so len : Nat} (hq : q < 4) (ho : o < 4) (h11 : μ 11 q = nI len) (s1 : μ 12 q = nI st) (s2 : μ 12 o = nI so) (b1 : st + len ≤ 12) (b2 : so + len ≤ 12) (kx : Int32 → Option (Int32 × (Nat → Nat → Int32))) : ∀ (d e n : Nat), e + d = len → d < n →
    ((∀ z, e ≤ z → z < len → μ 5 (so + z) = μ 5 (st + z)) ∧ l_Md_comesUpon_192 N μ (nI q) (nI o) kx n 1 (nI e) = kx 1) ∨ ((¬ ∀ z, e ≤ z → z < len → μ 5 (so + z) = μ 5 (st + z)) ∧ l_Md_comesUpon_192 N μ (nI q) (nI o) kx n 1 (nI e) = kx 0) := by
  intro d
  induction d with
  | zero =>
    intro e n he hn
    obtain ⟨n, rfl⟩ : ∃ m, n = m + 1 := ⟨n - 1, by omega⟩
    left
    refine ⟨fun z h1 h2 => by omega, ?_⟩
    unfold l_Md_comesUpon_192 f_Md_comesUpon_192
    rw [if_neg (by decide), ck_n hq (by omega), nI_clamp (by omega), h11, if_pos (nI_le (by omega) (by omega))]
  | succ d ih =>
    intro e n he hn
    obtain ⟨n, rfl⟩ : ∃ m, n = m + 1 := ⟨n - 1, by omega⟩
    obtain ⟨X, hX⟩ : ∃ X, X = l_Md_comesUpon_192 N μ (nI q) (nI o) kx (n + 1) 1 (nI e) := ⟨_, rfl⟩
    rw [← hX]
    have step : X = f_Md_comesUpon_192 N (l_Md_comesUpon_192 N μ (nI q) (nI o) kx n) kx μ 1 (nI q) (nI o) (nI e) := hX
    unfold f_Md_comesUpon_192 at step
    rw [if_neg (by decide), ck_n hq (by omega), nI_clamp (by omega), h11, if_neg (nI_ge (by omega) (by omega)), ck_n ho (by omega), nI_clamp (by omega), s2, nI_add, ck_n (by omega) (by omega), ck_n hq (by omega), s1, nI_add, ck_n (by omega) (by omega), nI_clamp (by omega), nI_clamp (by omega), nm_d, nm_d, nI_1] at step
    by_cases c : μ 5 (so + e) = μ 5 (st + e)
    · rw [if_pos c] at step
      rw [step]
      rcases ih (e + 1) n (by omega) (by omega) with ⟨a1, a2⟩ | ⟨a1, a2⟩
      · left
        refine ⟨fun z z1 z2 => ?_, a2⟩
        by_cases q : z = e
        · rw [q]; exact c
        · exact a1 z (by omega) z2
      · right
        exact ⟨fun h => a1 (fun z z1 z2 => h z (by omega) z2), a2⟩
    · rw [if_neg c] at step
      right
      refine ⟨fun h => c (h e (Nat.le_refl _) (by omega)), ?_⟩
      rw [step]
      obtain ⟨n, rfl⟩ : ∃ m, n = m + 1 := ⟨n - 1, by omega⟩
      unfold l_Md_comesUpon_192 f_Md_comesUpon_192
      rw [if_pos rfl]
theorem q_comes_142 {N : Nat} (hN : 14 ≤ N) {μ : Nat → Nat → Int32} {M : Nat} {el so fo : Nat → Nat} (hM : M ≤ 4) (h25 : μ 0 25 = nI M) (h11 : ∀ q, q < M → μ 11 q = nI (el q)) (h12 : ∀ q, q < M → μ 12 q = nI (so q)) (h15 : ∀ q, q < M → μ 15 q = nI (fo q) ∧ fo q < M) (hb : ∀ q, q < M → so q + el q ≤ 12) : ∀ (d q n : Nat), q + d = M → d < n →
    ((∀ z, q ≤ z → z < M → el (fo z) = el z ∧ sgl (μ 5) (so (fo z)) (el z) = sgl (μ 5) (so z) (el z)) ∧ l_Md_comesUpon_142 N μ (fun v6 => f_Md_comesUpon_261 N μ v6) n 1 (nI q) = some (1, μ)) ∨ ((¬ ∀ z, q ≤ z → z < M → el (fo z) = el z ∧ sgl (μ 5) (so (fo z)) (el z) = sgl (μ 5) (so z) (el z)) ∧ l_Md_comesUpon_142 N μ (fun v6 => f_Md_comesUpon_261 N μ v6) n 1 (nI q) = some (0, μ)) := by
  have no : ∀ (n q : Nat), 0 < n → q ≤ M → l_Md_comesUpon_142 N μ (fun v6 => f_Md_comesUpon_261 N μ v6) n 0 (nI q) = some (0, μ) := by
    intro n q hn hq
    obtain ⟨n, rfl⟩ : ∃ m, n = m + 1 := ⟨n - 1, by omega⟩
    unfold l_Md_comesUpon_142 f_Md_comesUpon_142
    have e : f_Md_comesUpon_261 N μ 0 = some (0, μ) := by
      unfold f_Md_comesUpon_261
      exact cb_0 _
    by_cases c : μ 0 25 ≤ nI q
    · rw [if_pos c]; exact e
    · rw [if_neg c, if_pos rfl]; exact e
  intro d
  induction d with
  | zero =>
    intro q n hq hn
    obtain ⟨n, rfl⟩ : ∃ m, n = m + 1 := ⟨n - 1, by omega⟩
    left
    refine ⟨fun z h1 h2 => by omega, ?_⟩
    unfold l_Md_comesUpon_142 f_Md_comesUpon_142
    rw [h25, if_pos (nI_le (by omega) (by omega))]
    unfold f_Md_comesUpon_261
    exact cb_1 _
  | succ d ih =>
    intro q n hq hn
    obtain ⟨n, rfl⟩ : ∃ m, n = m + 1 := ⟨n - 1, by omega⟩
    have hqM : q < M := by omega
    obtain ⟨f1, f2⟩ := h15 q hqM
    obtain ⟨X, hX⟩ : ∃ X, X = l_Md_comesUpon_142 N μ (fun v6 => f_Md_comesUpon_261 N μ v6) (n + 1) 1 (nI q) := ⟨_, rfl⟩
    rw [← hX]
    have step : X = f_Md_comesUpon_142 N (l_Md_comesUpon_142 N μ (fun v6 => f_Md_comesUpon_261 N μ v6) n) (fun v6 => f_Md_comesUpon_261 N μ v6) μ 1 (nI q) := hX
    unfold f_Md_comesUpon_142 at step
    rw [h25, if_neg (nI_ge hqM (by omega)), if_neg (by decide), ck_n (by omega) (by omega), nm_d, nI_clamp (by omega), f1, ck_n (by omega) (by omega), ck_n (by omega) (by omega), nI_clamp (by omega), h11 _ f2, h11 q hqM] at step
    have hbq := hb q hqM
    have hbo := hb _ f2
    by_cases c : el (fo q) = el q
    · rw [if_pos (by rw [c])] at step
      have key := q_comes_192 (N := N) (μ := μ) (q := q) (o := fo q) (by omega) (by omega) (h11 q hqM) (h12 q hqM) (h12 _ f2) hbq (by omega) (fun v6 => f_Md_comesUpon_255 N (l_Md_comesUpon_142 N μ (fun v6 => f_Md_comesUpon_261 N μ v6) n) (fun v6 => f_Md_comesUpon_261 N μ v6) μ v6 (nI q)) (el q) 0 N (by omega) (by omega)
      rw [nI_0] at key
      rcases key with ⟨a1, a2⟩ | ⟨a1, a2⟩
      · have es : sgl (μ 5) (so (fo q)) (el q) = sgl (μ 5) (so q) (el q) := (sgl_eq _ _ _).mpr (fun z hz => a1 z (by omega) hz)
        rw [a2] at step
        unfold f_Md_comesUpon_255 at step
        rw [nm_d, nI_1] at step
        rw [step]
        rcases ih (q + 1) n (by omega) (by omega) with ⟨x1, x2⟩ | ⟨x1, x2⟩
        · left
          refine ⟨fun z z1 z2 => ?_, x2⟩
          by_cases e : z = q
          · subst e
            exact ⟨c, es⟩
          · exact x1 z (by omega) z2
        · right
          exact ⟨fun h => x1 (fun z z1 z2 => h z (by omega) z2), x2⟩
      · rw [a2] at step
        unfold f_Md_comesUpon_255 at step
        rw [nm_d, nI_1, no n (q + 1) (by omega) (by omega)] at step
        right
        refine ⟨fun h => a1 (fun z _ hz => ?_), step⟩
        exact (sgl_eq _ _ _).mp (h q (Nat.le_refl _) hqM).2 z hz
    · rw [if_neg (fun h => by
        have h1 := nI_inj (a := el (fo q)) (b := el q) (by omega) (by omega) h
        exact c h1)] at step
      right
      refine ⟨fun h => c (h q (Nat.le_refl _) hqM).1, ?_⟩
      rw [step]
      obtain ⟨N', rfl⟩ : ∃ m, N = m + 1 := ⟨N - 1, by omega⟩
      have e1 : l_Md_comesUpon_192 (N' + 1) μ (nI q) (nI (fo q)) (fun v6 => f_Md_comesUpon_255 (N' + 1) (l_Md_comesUpon_142 (N' + 1) μ (fun v6 => f_Md_comesUpon_261 (N' + 1) μ v6) n) (fun v6 => f_Md_comesUpon_261 (N' + 1) μ v6) μ v6 (nI q)) (N' + 1) 0 0 = f_Md_comesUpon_255 (N' + 1) (l_Md_comesUpon_142 (N' + 1) μ (fun v6 => f_Md_comesUpon_261 (N' + 1) μ v6) n) (fun v6 => f_Md_comesUpon_261 (N' + 1) μ v6) μ 0 (nI q) := by
        rw [show l_Md_comesUpon_192 (N' + 1) μ (nI q) (nI (fo q)) (fun v6 => f_Md_comesUpon_255 (N' + 1) (l_Md_comesUpon_142 (N' + 1) μ (fun v6 => f_Md_comesUpon_261 (N' + 1) μ v6) n) (fun v6 => f_Md_comesUpon_261 (N' + 1) μ v6) μ v6 (nI q)) (N' + 1) 0 0 = f_Md_comesUpon_192 (N' + 1) (l_Md_comesUpon_192 (N' + 1) μ (nI q) (nI (fo q)) (fun v6 => f_Md_comesUpon_255 (N' + 1) (l_Md_comesUpon_142 (N' + 1) μ (fun v6 => f_Md_comesUpon_261 (N' + 1) μ v6) n) (fun v6 => f_Md_comesUpon_261 (N' + 1) μ v6) μ v6 (nI q)) N') (fun v6 => f_Md_comesUpon_255 (N' + 1) (l_Md_comesUpon_142 (N' + 1) μ (fun v6 => f_Md_comesUpon_261 (N' + 1) μ v6) n) (fun v6 => f_Md_comesUpon_261 (N' + 1) μ v6) μ v6 (nI q)) μ 0 (nI q) (nI (fo q)) 0 from rfl]
        unfold f_Md_comesUpon_192
        rw [if_pos rfl]
      rw [e1]
      unfold f_Md_comesUpon_255
      rw [nm_d, nI_1]
      exact no n (q + 1) (by omega) (by omega)
theorem So_bound {a : Nat → Int32} {el : Nat → Nat} {j : Nat} : ∀ (l : List Int32) (q p : Nat), Wk a el j l q p → ∀ z, q ≤ z → z < q + (vl l).length → So el l q p z + el z ≤ j
  | [], q, p, _, z, h1, h2 => by simp [vl] at h2; omega
  | x :: xs, q, p, h, z, h1, h2 => by
    by_cases c : x < 0
    · have h' : p + el q ≤ j ∧ Wk a el j xs (q + 1) (p + el q) := by
        have : (if x < 0 then _ else _) := h
        rw [if_pos c] at this
        exact this
      rw [vl_cons_n c, List.length_cons] at h2
      show (if x < 0 then (if z = q then p else So el xs (q + 1) (p + el q) z) else _) + el z ≤ j
      rw [if_pos c]
      by_cases e : z = q
      · rw [if_pos e, e]; exact h'.1
      · rw [if_neg e]
        exact So_bound xs (q + 1) _ h'.2 z (by omega) (by omega)
    · have h' : p < j ∧ a p = x ∧ Wk a el j xs q (p + 1) := by
        have : (if x < 0 then _ else _) := h
        rw [if_neg c] at this
        exact this
      rw [vl_cons_p c] at h2
      show (if x < 0 then _ else So el xs q (p + 1) z) + el z ≤ j
      rw [if_neg c]
      exact So_bound xs q _ h'.2.2 z h1 h2
/-- the rule comes upon the stretch with these lengths -/
def Cu (a : Nat → Int32) (el fo : Nat → Nat) (i j : Nat) (l : List Int32) : Prop := Wk a el j l 0 i ∧ ∀ q, q < (vl l).length → el (fo q) = el q ∧ sgl a (So el l 0 i (fo q)) (el q) = sgl a (So el l 0 i q) (el q)
theorem q_comesUpon {N : Nat} (hN : 14 ≤ N) {μ : Nat → Nat → Int32} {r i j : Nat} {l : List Int32} {el fo : Nat → Nat} (hij : i ≤ j) (hj : j ≤ 12) (hM : (vl l).length ≤ 4) (hel : ∀ q, q < (vl l).length → el q ≤ 12) (hr : MdR μ r l) (h25 : μ 0 25 = nI (vl l).length) (h11 : ∀ q, q < (vl l).length → μ 11 q = nI (el q)) (h15 : ∀ q, q < (vl l).length → μ 15 q = nI (fo q) ∧ fo q < (vl l).length) :
    ∃ μ', (∀ b, b ≠ 12 → μ' b = μ b) ∧ ((Cu (μ 5) el fo i j l ∧ (∀ q, q < (vl l).length → μ' 12 q = nI (So el l 0 i q)) ∧ m_Md_comesUpon N μ (nI r) (nI i) (nI j) = some (1, μ')) ∨ (¬ Cu (μ 5) el fo i j l ∧ m_Md_comesUpon N μ (nI r) (nI i) (nI j) = some (0, μ'))) := by
  have e0 : (vl (l.take 0)).length = 0 := by simp [vl]
  have h8 := hr.2.2.1
  obtain ⟨μ', p', is, g1, _, g3, g4, g5⟩ := q_comes_12 (N := N) hj hM rfl hel μ hr h11 (fun s_self v4 v6 => f_Md_comesUpon_121 N s_self (nI j) v4 v6) l.length 0 N μ i (by omega) (by omega) hij (fun _ _ => rfl)
  rw [e0, List.drop_zero] at g4
  rw [e0, nI_0] at g5
  refine ⟨μ', g1, ?_⟩
  have run : m_Md_comesUpon N μ (nI r) (nI i) (nI j) = f_Md_comesUpon_121 N μ' (nI j) (nI p') is := g5
  have h25' : μ' 0 25 = nI (vl l).length := by rw [g1 0 (by decide)]; exact h25
  obtain ⟨N', eN⟩ : ∃ m, N = m + 1 := ⟨N - 1, by omega⟩
  have no : l_Md_comesUpon_142 N μ' (fun v6 => f_Md_comesUpon_261 N μ' v6) N 0 0 = some (0, μ') := by
    have e : f_Md_comesUpon_261 N μ' 0 = some (0, μ') := by
      unfold f_Md_comesUpon_261
      exact cb_0 _
    have e2 : l_Md_comesUpon_142 N μ' (fun v6 => f_Md_comesUpon_261 N μ' v6) (N' + 1) 0 0 = some (0, μ') := by
      unfold l_Md_comesUpon_142 f_Md_comesUpon_142
      by_cases c : μ' 0 25 ≤ 0
      · rw [if_pos c]; exact e
      · rw [if_neg c, if_pos rfl]; exact e
    rw [← eN] at e2
    exact e2
  unfold f_Md_comesUpon_121 at run
  rcases g4 with ⟨rfl, a2, a3⟩ | ⟨rfl, a2⟩
  · rw [if_neg (by decide)] at run
    by_cases c : p' = j
    · rw [if_pos (by rw [c]), ← nI_0] at run
      have hW := a2.mpr c
      have hb := So_bound l 0 i hW
      have key := q_comes_142 hN (μ := μ') (so := fun q => So el l 0 i q) hM h25' (fun q hq => by rw [g1 11 (by decide)]; exact h11 q hq) (fun q hq => a3 q (by omega) hq) (fun q hq => by rw [g1 15 (by decide)]; exact h15 q hq) (fun q hq => by have := hb q (by omega) (by omega); omega) (vl l).length 0 N (by omega) (by omega)
      rw [g1 5 (by decide)] at key
      rcases key with ⟨x1, x2⟩ | ⟨x1, x2⟩
      · exact Or.inl ⟨⟨hW, fun q hq => x1 q (by omega) hq⟩, fun q hq => a3 q (by omega) hq, by rw [run]; exact x2⟩
      · exact Or.inr ⟨fun h => x1 (fun q _ hq => h.2 q hq), by rw [run]; exact x2⟩
    · rw [if_neg (fun q => c (nI_inj (by omega) (by omega) q))] at run
      exact Or.inr ⟨fun h => c (a2.mp h.1), by rw [run]; exact no⟩
  · rw [if_pos rfl] at run
    exact Or.inr ⟨fun h => a2 h.1, by rw [run]; exact no⟩
