/-! shortest, in the model -/
def eL (n : Nat) : Int64 := if n = 0 then -1 else nL n
theorem eL_0 : eL 0 = -1 := rfl
theorem eL_n {n : Nat} (h : n ≠ 0) : eL n = nL n := if_neg h
def LeL (ℓ : Nat → Int64) (f : Nat → Nat) : Prop := ∀ s, s < 6 → ℓ s = eL (f s)
theorem nL_0 : (0 : Int64) = nL 0 := rfl
theorem cmp_neg {n : Nat} (h : n < 2 ^ 62) : ¬ lg_cmp (nL n) 0 < 0 := by
  rw [lg_cmp_lt, Int64.lt_iff_toInt_lt, nL_t h]
  show ¬ (n : Int) < 0
  omega
theorem cmp_pos {n : Nat} (h : n < 2 ^ 62) : 0 ≤ lg_cmp (nL n) 0 := by
  rw [lg_cmp_ge, Int64.le_iff_toInt_le, nL_t h]
  show (0 : Int) ≤ n
  omega
theorem cmp_m1 : lg_cmp (-1) 0 < 0 := by decide
theorem cmp_m1' : ¬ 0 ≤ lg_cmp (-1) 0 := by decide
theorem cmp_nn {a b : Nat} (ha : a < 2 ^ 62) (hb : b < 2 ^ 62) : 0 ≤ lg_cmp (nL a) (nL b) ↔ b ≤ a := by
  rw [lg_cmp_ge, Int64.le_iff_toInt_le, nL_t ha, nL_t hb]
  omega
theorem updL_s (f : Nat → Int64) (k : Nat) (x : Int64) : vp_updL f k x k = x := if_pos rfl
theorem updL_k (f : Nat → Int64) {k j : Nat} (x : Int64) (h : j ≠ k) : vp_updL f k x j = f j := if_neg h
theorem q_sh62 {N : Nat} {μ : Nat → Nat → Int32} {ℓ : Nat → Int64} {G : Gm} (hG : MdG μ G) {f : Nat → Nat} (hb : Bd f) (h : LeL ℓ f) {r : Nat} (hr : r < gR G) (v1 v2 : Int32) (kx : Int64 → Option (Int32 × (Nat → Nat → Int32) × (Nat → Int64))) : ∀ (d k n : Nat), k + d = (gry G r).length → d < n → rok G f ((gry G r).take k) → (rok G f (gry G r) ∧ l_Md_shortest_62 N μ ℓ v1 v2 (nI r) kx n (nL (rvs G f ((gry G r).take k))) (nI k) = kx (nL (rvs G f (gry G r)))) ∨ (¬ rok G f (gry G r) ∧ l_Md_shortest_62 N μ ℓ v1 v2 (nI r) kx n (nL (rvs G f ((gry G r).take k))) (nI k) = kx (-1)) := by
  have hR := hG.1.2.2.1
  have hV := hG.1.2.1
  have h8 := (hG.1.2.2.2.2 r hr).2.2.1
  have hMR := (hG.2.2.2.2.2 r hr).2
  intro d
  induction d with
  | zero =>
    intro k n hk hn hok
    obtain ⟨n, rfl⟩ : ∃ m, n = m + 1 := ⟨n - 1, by omega⟩
    have : k = (gry G r).length := by omega
    subst this
    rw [List.take_length] at hok ⊢
    refine Or.inl ⟨hok, ?_⟩
    unfold l_Md_shortest_62 f_Md_shortest_62
    rw [ck_n (by omega) (by omega), nI_clamp (by omega), hMR.2.1, if_pos (nI_le (Nat.le_refl _) (by omega))]
  | succ d ih =>
    intro k n hk hn hok
    obtain ⟨n, rfl⟩ : ∃ m, n = m + 1 := ⟨n - 1, by omega⟩
    have hkl : k < (gry G r).length := by omega
    have hv := rvs_take (G := G) hb h8 k
    obtain ⟨X, hX⟩ : ∃ X, X = l_Md_shortest_62 N μ ℓ v1 v2 (nI r) kx (n + 1) (nL (rvs G f ((gry G r).take k))) (nI k) := ⟨_, rfl⟩
    rw [← hX]
    have step : X = f_Md_shortest_62 N (l_Md_shortest_62 N μ ℓ v1 v2 (nI r) kx n) kx μ ℓ v1 v2 (nI r) (nL (rvs G f ((gry G r).take k))) (nI k) := hX
    unfold f_Md_shortest_62 at step
    rw [ck_n (by omega) (by omega), nI_clamp (by omega), hMR.2.1, if_neg (nI_ge hkl (by omega)), if_neg (cmp_neg (by omega)), l_8, pk_mul, nI_add, ck_n (by omega) (by omega), nI_clamp (by omega), hMR.2.2.2 k hkl, nm_d] at step
    by_cases c : (gry G r).getD k 0 < 0
    · have hs6 : sX G ((gry G r).getD k 0) < 6 := okSym_sX6 hG.1 ((hG.1.2.2.2.2 r hr).2.2.2.1 _ (getD_mem hkl)) c
      obtain ⟨v, hv', ev⟩ : ∃ v, v < gV G ∧ (gry G r).getD k 0 = vS v := by
        rcases (hG.1.2.2.2.2 r hr).2.2.2.1 _ (getD_mem hkl) with ⟨z, hz, e⟩ | h
        · rw [e] at c
          exact absurd c (nI_pos (by omega))
        · exact h
      have esx : sX G ((gry G r).getD k 0) = gvs G v := by
        unfold sX
        rw [ev, vI_vS (by omega)]
      rw [if_pos c, ev, vS_back (by omega), ck_n (by omega) (by omega), nI_clamp (by omega), hG.2.2.2.2.1 v hv', ← esx, ck_n hs6 (by omega), nI_clamp (by omega), h _ hs6] at step
      unfold f_Md_shortest_117 at step
      by_cases z : f (sX G ((gry G r).getD k 0)) = 0
      · rw [z, eL_0, if_neg cmp_m1', nm_d, nI_1] at step
        refine Or.inr ⟨fun q => q _ (getD_mem hkl) c z, ?_⟩
        rw [step]
        obtain ⟨n, rfl⟩ : ∃ m, n = m + 1 := ⟨n - 1, by omega⟩
        unfold l_Md_shortest_62 f_Md_shortest_62
        rw [ck_n (by omega) (by omega), nI_clamp (by omega), hMR.2.1]
        by_cases e : (gry G r).length ≤ k + 1
        · rw [if_pos (nI_le e (by omega))]
        · rw [if_neg (nI_ge (by omega) (by omega)), if_pos cmp_m1]
      · have hle := hb.le (sX G ((gry G r).getD k 0))
        rw [eL_n z, if_pos (cmp_pos (by omega)), nL_add, nm_d, nm_d, nI_1] at step
        have ih' := ih (k + 1) n (by omega) (by omega) (rok_snoc hkl hok (fun _ => z))
        rw [rvs_snoc hkl, if_pos c, ← step] at ih'
        exact ih'
    · rw [if_neg c] at step
      unfold f_Md_shortest_117 at step
      rw [show (1 : Int64) = nL 1 from rfl, if_pos (cmp_pos (by omega)), nL_add, nm_d, nm_d, nI_1] at step
      have ih' := ih (k + 1) n (by omega) (by omega) (rok_snoc hkl hok (fun q => absurd q c))
      rw [rvs_snoc hkl, if_neg c, ← step] at ih'
      exact ih'
def lf (n : Nat) : Nat := if n = 0 then 300000 else n
def ms (f : Nat → Nat) : Nat := lf (f 0) + lf (f 1) + lf (f 2) + lf (f 3) + lf (f 4) + lf (f 5)
theorem ms_lt {f : Nat → Nat} {s v : Nat} (hs : s < 6) (hv : 0 < v) (hv2 : v < 300000) (h : f s = 0 ∨ v < f s) : ms (fun t => if t = s then v else f t) < ms f := by
  have h6 := six (F := fun t => lf (f t)) (F' := fun t => lf (if t = s then v else f t)) hs (fun t ht => by simp only [if_neg ht])
  simp only [if_true] at h6
  have e : lf v < lf (f s) := by
    unfold lf
    rw [if_neg (by omega)]
    rcases h with h | h
    · rw [if_pos h]
      omega
    · rw [if_neg (by omega)]
      omega
  unfold ms
  have h6' : lf (if 0 = s then v else f 0) + lf (if 1 = s then v else f 1) + lf (if 2 = s then v else f 2) + lf (if 3 = s then v else f 3) + lf (if 4 = s then v else f 4) + lf (if 5 = s then v else f 5) + lf (f s) = lf (f 0) + lf (f 1) + lf (f 2) + lf (f 3) + lf (f 4) + lf (f 5) + lf v := h6
  show lf (if 0 = s then v else f 0) + lf (if 1 = s then v else f 1) + lf (if 2 = s then v else f 2) + lf (if 3 = s then v else f 3) + lf (if 4 = s then v else f 4) + lf (if 5 = s then v else f 5) < _
  omega
theorem ms_le {f : Nat → Nat} (h : Bd f) : ms f ≤ 1800000 := by
  have k : ∀ s, lf (f s) ≤ 300000 := by
    intro s
    have := h.le s
    unfold lf
    split <;> omega
  have h0 := k 0
  have h1 := k 1
  have h2 := k 2
  have h3 := k 3
  have h4 := k 4
  have h5 := k 5
  unfold ms
  omega
def GdF (G : Gm) (f : Nat → Nat) : Prop := Bd f ∧ ∀ g, Cl G g → Ab f g
theorem q_sh48 {N : Nat} (hN : 9 ≤ N) {μ : Nat → Nat → Int32} {G : Gm} (hG : MdG μ G) (v1 : Int32) (kx : (Nat → Int64) → Int32 → Option (Int32 × (Nat → Nat → Int32) × (Nat → Int64))) : ∀ (d q n : Nat) (ℓ : Nat → Int64) (f : Nat → Nat) (ch : Int32), q + d = gR G → d < n → GdF G f → LeL ℓ f → ∃ ℓ' f' ch', GdF G f' ∧ LeL ℓ' f' ∧ ((ch' = ch ∧ f' = f ∧ ∀ r, q ≤ r → r < gR G → rok G f (gry G r) → f (grs G r) ≠ 0 ∧ f (grs G r) ≤ rvs G f (gry G r)) ∨ (ch' = 1 ∧ ms f' < ms f)) ∧ l_Md_shortest_48 N μ v1 kx n ℓ ch (nI q) = kx ℓ' ch' := by
  have hR := hG.1.2.2.1
  intro d
  induction d with
  | zero =>
    intro q n ℓ f ch hq hn hg h
    obtain ⟨n, rfl⟩ : ∃ m, n = m + 1 := ⟨n - 1, by omega⟩
    have : q = gR G := by omega
    subst this
    refine ⟨ℓ, f, ch, hg, h, Or.inl ⟨rfl, rfl, fun r h1 h2 => by omega⟩, ?_⟩
    unfold l_Md_shortest_48 f_Md_shortest_48
    rw [hG.2.2.2.1, if_pos (nI_le (Nat.le_refl _) (by omega))]
  | succ d ih =>
    intro q n ℓ f ch hq hn hg h
    obtain ⟨n, rfl⟩ : ∃ m, n = m + 1 := ⟨n - 1, by omega⟩
    have hqR : q < gR G := by omega
    have h8 := (hG.1.2.2.2.2 q hqR).2.2.1
    have hs6 : grs G q < 6 := by
      have h1 := (hG.1.2.2.2.2 q hqR).1
      have h2 := hG.1.1
      omega
    have hrs := (hG.2.2.2.2.2 q hqR).1
    obtain ⟨X, hX⟩ : ∃ X, X = l_Md_shortest_48 N μ v1 kx (n + 1) ℓ ch (nI q) := ⟨_, rfl⟩
    rw [← hX]
    have step : X = f_Md_shortest_48 N (l_Md_shortest_48 N μ v1 kx n) kx μ ℓ v1 ch (nI q) := hX
    unfold f_Md_shortest_48 at step
    rw [hG.2.2.2.1, if_neg (nI_ge hqR (by omega))] at step
    have key := q_sh62 (N := N) hG hg.1 h hqR v1 ch (fun v4 => f_Md_shortest_145 N (l_Md_shortest_48 N μ v1 kx n) kx μ ℓ v1 ch (nI q) v4) (gry G q).length 0 N (by omega) (by omega) (fun x hx => by simp at hx)
    have e0 : rvs G f ((gry G q).take 0) = 0 := rfl
    rw [e0, ← nL_0, nI_0] at key
    -- nothing changes
    have same : (rok G f (gry G q) → f (grs G q) ≠ 0 ∧ f (grs G q) ≤ rvs G f (gry G q)) → X = l_Md_shortest_48 N μ v1 kx n ℓ ch (nI (q + 1)) → ∃ ℓ' f' ch', GdF G f' ∧ LeL ℓ' f' ∧ ((ch' = ch ∧ f' = f ∧ ∀ r, q ≤ r → r < gR G → rok G f (gry G r) → f (grs G r) ≠ 0 ∧ f (grs G r) ≤ rvs G f (gry G r)) ∨ (ch' = 1 ∧ ms f' < ms f)) ∧ X = kx ℓ' ch' := by
      intro hc he
      obtain ⟨ℓ', f', ch', g1, g2, g3, g4⟩ := ih (q + 1) n ℓ f ch (by omega) (by omega) hg h
      refine ⟨ℓ', f', ch', g1, g2, ?_, by rw [he]; exact g4⟩
      rcases g3 with ⟨a1, a2, a3⟩ | g3
      · refine Or.inl ⟨a1, a2, fun r r1 r2 => ?_⟩
        by_cases e : r = q
        · subst e
          exact hc
        · exact a3 r (by omega) r2
      · exact Or.inr g3
    rcases key with ⟨ok, e⟩ | ⟨ok, e⟩
    · have hv := rvs_take (G := G) hg.1 h8 (gry G q).length
      rw [List.take_length] at hv
      have hp := rvs_pos (hG.1.2.2.2.2 q hqR).2.1 ok
      have hle := hg.1.le (grs G q)
      rw [e] at step
      unfold f_Md_shortest_145 at step
      rw [if_neg (cmp_neg (by omega)), ck_n (by omega) (by omega), nI_clamp (by omega), hrs, ck_n hs6 (by omega), nI_clamp (by omega), h _ hs6] at step
      -- a change
      have chg : (f (grs G q) = 0 ∨ rvs G f (gry G q) < f (grs G q)) → X = f_Md_shortest_185 N (l_Md_shortest_48 N μ v1 kx n) kx μ ℓ v1 (nI q) (nL (rvs G f (gry G q))) → ∃ ℓ' f' ch', GdF G f' ∧ LeL ℓ' f' ∧ ((ch' = ch ∧ f' = f ∧ ∀ r, q ≤ r → r < gR G → rok G f (gry G r) → f (grs G r) ≠ 0 ∧ f (grs G r) ≤ rvs G f (gry G r)) ∨ (ch' = 1 ∧ ms f' < ms f)) ∧ X = kx ℓ' ch' := by
        intro hc he
        have up : Up G q f (fun s => if s = grs G q then rvs G f (gry G q) else f s) := Or.inr (Or.inr ⟨ok, hc, rfl⟩)
        have hb' := up.bd hG.1 hqR hg.1
        have hvb := hb'.le (grs G q)
        simp only [if_true] at hvb
        have lt := ms_lt hs6 hp (by omega) hc
        obtain ⟨ℓ', f', ch', g1, g2, g3, g4⟩ := ih (q + 1) n (vp_updL ℓ (grs G q) (nL (rvs G f (gry G q)))) (fun s => if s = grs G q then rvs G f (gry G q) else f s) 1 (by omega) (by omega) ⟨hb', fun g cg => up.ab hqR (hg.2 g cg) cg⟩ (fun s hs => by
          show _ = eL (if s = grs G q then rvs G f (gry G q) else f s)
          by_cases e : s = grs G q
          · rw [if_pos e, e, updL_s, eL_n (by omega)]
          · rw [if_neg e, updL_k _ _ e]
            exact h s hs)
        refine ⟨ℓ', f', ch', g1, g2, Or.inr ?_, ?_⟩
        · rcases g3 with ⟨a1, a2, _⟩ | ⟨a1, a2⟩
          · exact ⟨a1, by rw [a2]; exact lt⟩
          · exact ⟨a1, Nat.lt_trans a2 lt⟩
        · unfold f_Md_shortest_185 at he
          rw [ck_n (by omega) (by omega), nI_clamp (by omega), hrs, ck_n hs6 (by omega), nI_clamp (by omega), nm_d, nm_d, nI_1] at he
          rw [he]
          exact g4
      by_cases z : f (grs G q) = 0
      · rw [z, eL_0, if_pos cmp_m1] at step
        exact chg (Or.inl z) step
      · rw [eL_n z, if_neg (cmp_neg (by omega)), ck_n (by omega) (by omega), ck_n hs6 (by omega)] at step
        by_cases c : f (grs G q) ≤ rvs G f (gry G q)
        · rw [if_pos ((cmp_nn (by omega) (by omega)).mpr c), nm_d, nI_1] at step
          exact same (fun _ => ⟨z, c⟩) step
        · rw [if_neg (fun q => c ((cmp_nn (by omega) (by omega)).mp q))] at step
          exact chg (Or.inr (by omega)) step
    · rw [e] at step
      unfold f_Md_shortest_145 at step
      rw [if_pos cmp_m1, nm_d, nI_1] at step
      exact same (fun q => absurd q ok) step
theorem q_sh40 {N : Nat} (hN : 32 ≤ N) {μ : Nat → Nat → Int32} {G : Gm} (hG : MdG μ G) (v1 : Int32) (kx : (Nat → Int64) → Option (Int32 × (Nat → Nat → Int32) × (Nat → Int64))) : ∀ (d n : Nat) (ℓ : Nat → Int64) (f : Nat → Nat), ms f ≤ d → d + 1 < n → GdF G f → LeL ℓ f → ∃ ℓ' m, Cl G m ∧ (∀ g, Cl G g → Ab m g) ∧ Bd m ∧ LeL ℓ' m ∧ l_Md_shortest_40 N μ v1 kx n ℓ 1 = kx ℓ' := by
  have hR := hG.1.2.2.1
  intro d
  induction d with
  | zero =>
    intro n ℓ f hm hn hg h
    obtain ⟨n, rfl⟩ : ∃ m, n = m + 2 := ⟨n - 2, by omega⟩
    obtain ⟨ℓ1, f1, ch, a1, a2, a3, a4⟩ := q_sh48 (N := N) (by omega) hG v1 (fun s_least v2 => f_Md_shortest_206 N (l_Md_shortest_40 N μ v1 kx (n + 1)) kx μ s_least v1 v2) (gR G) 0 N ℓ f 0 (by omega) (by omega) hg h
    rcases a3 with ⟨rfl, rfl, a3⟩ | ⟨_, a3⟩
    · refine ⟨ℓ1, f1, fun r hr => a3 r (Nat.zero_le _) hr, hg.2, hg.1, a2, ?_⟩
      rw [nI_0] at a4
      unfold l_Md_shortest_40 f_Md_shortest_40
      rw [if_neg (by decide), a4]
      unfold f_Md_shortest_206 l_Md_shortest_40 f_Md_shortest_40
      rw [if_pos rfl]
    · omega
  | succ d ih =>
    intro n ℓ f hm hn hg h
    obtain ⟨n, rfl⟩ : ∃ m, n = m + 2 := ⟨n - 2, by omega⟩
    obtain ⟨ℓ1, f1, ch, a1, a2, a3, a4⟩ := q_sh48 (N := N) (by omega) hG v1 (fun s_least v2 => f_Md_shortest_206 N (l_Md_shortest_40 N μ v1 kx (n + 1)) kx μ s_least v1 v2) (gR G) 0 N ℓ f 0 (by omega) (by omega) hg h
    rcases a3 with ⟨rfl, rfl, a3⟩ | ⟨rfl, a3⟩
    · refine ⟨ℓ1, f1, fun r hr => a3 r (Nat.zero_le _) hr, hg.2, hg.1, a2, ?_⟩
      rw [nI_0] at a4
      unfold l_Md_shortest_40 f_Md_shortest_40
      rw [if_neg (by decide), a4]
      unfold f_Md_shortest_206 l_Md_shortest_40 f_Md_shortest_40
      rw [if_pos rfl]
    · obtain ⟨ℓ', m, b1, b2, b3, b4, b5⟩ := ih (n + 1) ℓ1 f1 (by omega) (by omega) a1 a2
      refine ⟨ℓ', m, b1, b2, b3, b4, ?_⟩
      rw [nI_0] at a4
      unfold l_Md_shortest_40 f_Md_shortest_40
      rw [if_neg (by decide), a4]
      unfold f_Md_shortest_206
      exact b5
theorem q_sh17 {N : Nat} {μ : Nat → Nat → Int32} (v1 : Int32) (kx : (Nat → Int64) → Option (Int32 × (Nat → Nat → Int32) × (Nat → Int64))) : ∀ (d q n : Nat) (ℓ : Nat → Int64), q + d = 6 → d < n → (∀ s, s < q → ℓ s = -1) → ∃ ℓ', LeL ℓ' (fun _ => 0) ∧ l_Md_shortest_17 N μ v1 kx n ℓ (nI q) = kx ℓ' := by
  intro d
  induction d with
  | zero =>
    intro q n ℓ hq hn h
    obtain ⟨n, rfl⟩ : ∃ m, n = m + 1 := ⟨n - 1, by omega⟩
    have : q = 6 := by omega
    subst this
    refine ⟨ℓ, h, ?_⟩
    unfold l_Md_shortest_17 f_Md_shortest_17
    rw [l_6, if_pos (nI_le (Nat.le_refl _) (by omega))]
  | succ d ih =>
    intro q n ℓ hq hn h
    obtain ⟨n, rfl⟩ : ∃ m, n = m + 1 := ⟨n - 1, by omega⟩
    obtain ⟨ℓ', b1, b2⟩ := ih (q + 1) n (vp_updL ℓ q (-1)) (by omega) (by omega) (fun s hs => by
      by_cases e : s = q
      · subst e
        exact updL_s _ _ _
      · rw [updL_k _ _ e]
        exact h s (by omega))
    refine ⟨ℓ', b1, ?_⟩
    unfold l_Md_shortest_17 f_Md_shortest_17
    rw [l_6, if_neg (nI_ge (by omega) (by omega)), ck_n (by omega) (by omega), nI_clamp (by omega), nm_d, nm_d, nI_1]
    exact b2
theorem eL_back {n : Nat} (h : n < 2 ^ 31) : (eL n).toInt32 = eI n := by
  unfold eL eI
  by_cases z : n = 0
  · rw [if_pos z, if_pos z]
    decide
  · rw [if_neg z, if_neg z]
    exact nL_back h
theorem q_shortest {N : Nat} (hN : NB ≤ N) {μ : Nat → Nat → Int32} {ℓ : Nat → Int64} {G : Gm} (hG : MdG μ G) {s : Nat} (hs : s < gS G) : ∃ ℓ' m, Cl G m ∧ (∀ g, Cl G g → Ab m g) ∧ m_Md_shortest N μ ℓ (nI s) = some (eI (m s), st2 μ 0 0 0, ℓ') := by
  have hNB : 4000000 ≤ NB := by unfold NB; omega
  have h6 := hG.1.1
  have hG1 : MdG (st2 μ 0 0 0) G := hG.fq (fun z hz => st2_k _ _ _ (by omega)) (fun b hb => st2_a _ _ _ (by omega))
  have his : m_Md_isSort (st2 μ 0 0 0) (nI s) = some 1 := by
    rcases p_Md_isSort hG1.2.1 h6 (nI s) with ⟨j, _, _, e⟩ | ⟨h | h, _⟩
    · exact e
    · exact absurd h (nI_pos (by omega))
    · exact absurd h (nI_ge hs (by omega))
  obtain ⟨ℓ1, a1, a2⟩ := q_sh17 (N := N) (μ := st2 μ 0 0 0) (nI s) (fun s_least => f_Md_shortest_38 N (st2 μ 0 0 0) s_least (nI s)) 6 0 N ℓ (by omega) (by omega) (fun s hs => by omega)
  obtain ⟨ℓ2, m, b1, b2, b3, b4, b5⟩ := q_sh40 (N := N) (by omega) hG1 (nI s) (fun s_least => f_Md_shortest_209 N (st2 μ 0 0 0) s_least (nI s)) 1800000 N ℓ1 (fun _ => 0) (ms_le Bd_0) (by omega) ⟨Bd_0, fun g _ => Ab_0 g⟩ a1
  refine ⟨ℓ2, m, b1, b2, ?_⟩
  rw [nI_0] at a2
  unfold m_Md_shortest f_Md_shortest_0
  rw [nm_d, his, b1_some, if_neg (by decide), a2]
  unfold f_Md_shortest_38
  rw [b5]
  unfold f_Md_shortest_209
  have := b3.le s
  rw [ck_n (by omega) (by omega), nI_clamp (by omega), b4 s (by omega), eL_back (by omega)]
