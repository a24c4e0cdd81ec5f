/-! shortest, in the class -/
def eI (n : Nat) : Int32 := if n = 0 then -1 else nI n
theorem eI_0 : eI 0 = -1 := rfl
theorem eI_n {n : Nat} (h : n ≠ 0) : eI n = nI n := if_neg h
def ShL (σ : Nat → Nat → Int32) (f : Nat → Nat) : Prop := ∀ s, s < 6 → σ 1 s = eI (f s)
theorem rvs_app {G : Gm} {f : Nat → Nat} : ∀ (a b : List Int32), rvs G f (a ++ b) = rvs G f a + rvs G f b
  | [], b => by rw [List.nil_append]; show _ = 0 + _; omega
  | x :: xs, b => by
    show (if x < 0 then f (sX G x) else 1) + rvs G f (xs ++ b) = (if x < 0 then f (sX G x) else 1) + rvs G f xs + rvs G f b
    rw [rvs_app xs b]
    omega
theorem rvs_snoc {G : Gm} {f : Nat → Nat} {l : List Int32} {k : Nat} (hk : k < l.length) : rvs G f (l.take (k + 1)) = rvs G f (l.take k) + if l.getD k 0 < 0 then f (sX G (l.getD k 0)) else 1 := by
  rw [take_snoc hk, rvs_app]
  show _ + ((if _ then _ else _) + 0) = _
  rw [Nat.add_zero]
theorem rok_snoc {G : Gm} {f : Nat → Nat} {l : List Int32} {k : Nat} (hk : k < l.length) (h : rok G f (l.take k)) (h2 : l.getD k 0 < 0 → f (sX G (l.getD k 0)) ≠ 0) : rok G f (l.take (k + 1)) := by
  rw [take_snoc hk]
  intro x hx
  rcases List.mem_append.mp hx with hx | hx
  · exact h x hx
  · have : x = l.getD k 0 := by simpa using hx
    subst this
    exact h2
theorem rvs_take {G : Gm} {f : Nat → Nat} (h : Bd f) {l : List Int32} (hl : l.length ≤ 8) (k : Nat) : rvs G f (l.take k) ≤ 2097152 := by
  have h1 := rvs_bd (G := G) (b := 262144) (by omega) h.le (l.take k)
  have h2 : (l.take k).length ≤ 8 := by
    rw [List.length_take]
    omega
  have h3 : (l.take k).length * 262144 ≤ 8 * 262144 := Nat.mul_le_mul_right _ h2
  omega
theorem p_soFar {σ : Nat → Nat → Int32} {f : Nat → Nat} (h : ShL σ f) {s : Nat} (hs : s < 6) : m_Sr_lengthSoFar σ (nI s) = some (eI (f s)) := by
  unfold m_Sr_lengthSoFar f_Sr_lengthSoFar_0
  rw [if_neg (nI_pos (by omega)), l_6, if_neg (nI_ge hs (by omega)), ck_n hs (by omega), nI_clamp (by omega), h s hs]
theorem p_by4 {N : Nat} {γ σ : Nat → Nat → Int32} {G : Gm} (hG : GrOK γ G) {f : Nat → Nat} (hb : Bd f) (h : ShL σ f) {r : Nat} (hr : r < gR G) (ke : Option Int32) (kx : Int32 → Option Int32) : ∀ (d k n : Nat), k + d = (gry G r).length → d < n → rok G f ((gry G r).take k) → (rok G f (gry G r) ∧ l_Sr_lengthBy_4 N σ γ (nI r) ke kx n (nI (rvs G f ((gry G r).take k))) (nI k) = kx (nI (rvs G f (gry G r)))) ∨ (¬ rok G f (gry G r) ∧ l_Sr_lengthBy_4 N σ γ (nI r) ke kx n (nI (rvs G f ((gry G r).take k))) (nI k) = ke) := by
  have h8 := (hG.1.2.2.2.2 r hr).2.2.1
  intro d
  induction d with
  | zero =>
    intro k n hk hn hok
    obtain ⟨n, rfl⟩ : ∃ m, n = m + 1 := ⟨n - 1, by omega⟩
    have : k = (gry G r).length := by omega
    subst this
    rw [List.take_length] at hok ⊢
    refine Or.inl ⟨hok, ?_⟩
    unfold l_Sr_lengthBy_4 f_Sr_lengthBy_4
    rw [g_len hG hr, b1_some, if_pos (nI_le (Nat.le_refl _) (by omega))]
  | succ d ih =>
    intro k n hk hn hok
    obtain ⟨n, rfl⟩ : ∃ m, n = m + 1 := ⟨n - 1, by omega⟩
    have hkl : k < (gry G r).length := by omega
    obtain ⟨X, hX⟩ : ∃ X, X = l_Sr_lengthBy_4 N σ γ (nI r) ke kx (n + 1) (nI (rvs G f ((gry G r).take k))) (nI k) := ⟨_, rfl⟩
    rw [← hX]
    have step : X = f_Sr_lengthBy_4 N (l_Sr_lengthBy_4 N σ γ (nI r) ke kx n) ke kx σ γ (nI r) (nI (rvs G f ((gry G r).take k))) (nI k) := hX
    unfold f_Sr_lengthBy_4 at step
    rw [g_len hG hr, b1_some, if_neg (nI_ge hkl (by omega)), g_slotAt hG hr hkl, b1_some] at step
    by_cases c : (gry G r).getD k 0 < 0
    · have hmem : (gry G r).getD k 0 ∈ dv (gry G r) := dv_mem.mpr ⟨getD_mem hkl, c⟩
      have hi := dv_lt hkl c
      have h4 := dv_le4 hG.1 hr
      have hs6 : sX G ((gry G r).getD k 0) < 6 := okSym_sX6 hG.1 ((hG.1.2.2.2.2 r hr).2.2.2.1 _ (getD_mem hkl)) c
      rw [if_pos c, if_neg (nI_neg (by omega)), g_slotSort hG hr hi, b1_some, idx_getD hmem, p_soFar h hs6, b1_some] at step
      unfold f_Sr_lengthBy_51 at step
      by_cases z : f (sX G ((gry G r).getD k 0)) = 0
      · rw [z, eI_0, if_pos rfl] at step
        exact Or.inr ⟨fun q => q _ (getD_mem hkl) c z, step⟩
      · have hle := hb.le (sX G ((gry G r).getD k 0))
        rw [eI_n z, if_neg (nI_neg (by omega)), nI_add, nm_d, nm_d, nI_1] at step
        have ih' := ih (k + 1) n (by omega) (by omega) (rok_snoc hkl hok (fun _ => z))
        rw [rvs_snoc hkl, if_pos c, ← step] at ih'
        exact ih'
    · rw [if_neg c, if_pos rfl] at step
      unfold f_Sr_lengthBy_51 at step
      rw [if_neg (by decide), nI_1, nm_d, nm_d, nI_1] at step
      have ih' := ih (k + 1) n (by omega) (by omega) (rok_snoc hkl hok (fun q => absurd q c))
      rw [rvs_snoc hkl, if_neg c, ← step] at ih'
      exact ih'
theorem p_lengthBy {N : Nat} (hN : 9 ≤ N) {γ σ : Nat → Nat → Int32} {G : Gm} (hG : GrOK γ G) {f : Nat → Nat} (hb : Bd f) (h : ShL σ f) {r : Nat} (hr : r < gR G) : (rok G f (gry G r) ∧ m_Sr_lengthBy N σ γ (nI r) = some (nI (rvs G f (gry G r)))) ∨ (¬ rok G f (gry G r) ∧ m_Sr_lengthBy N σ γ (nI r) = some (-1)) := by
  have h8 := (hG.1.2.2.2.2 r hr).2.2.1
  have key := p_by4 (N := N) hG hb h hr (f_Sr_lengthBy_59 N σ γ) (fun v2 => f_Sr_lengthBy_72 N σ γ v2) (gry G r).length 0 N (by omega) (by omega) (fun x hx => by simp at hx)
  have e0 : rvs G f ((gry G r).take 0) = 0 := rfl
  rw [e0, nI_0] at key
  exact key
theorem p_up {N : Nat} (hN : 9 ≤ N) {γ σ : Nat → Nat → Int32} {G : Gm} (hG : GrOK γ G) {f : Nat → Nat} (hb : Bd f) (h : ShL σ f) {r : Nat} (hr : r < gR G) (k : (Nat → Nat → Int32) → Option (Int32 × (Nat → Nat → Int32))) : ∃ f' σ', Up G r f f' ∧ ShL σ' f' ∧ (bd1 (m_Sr_lengthBy N σ γ (nI r)) fun r_4 => bd1 (m_Sr_shorten σ (nI (grs G r)) r_4) k) = k σ' := by
  have hs6 : grs G r < 6 := by
    have h1 := (hG.1.2.2.2.2 r hr).1
    have h2 := hG.1.1
    omega
  have h8 := (hG.1.2.2.2.2 r hr).2.2.1
  rcases p_lengthBy hN hG hb h hr with ⟨ok, e⟩ | ⟨ok, e⟩
  · have hv := rvs_take (G := G) hb h8 (gry G r).length
    rw [List.take_length] at hv
    have hp := rvs_pos (hG.1.2.2.2.2 r hr).2.1 ok
    have hle := hb.le (grs G r)
    have upd : ShL (st2 σ 1 (grs G r) (nI (rvs G f (gry G r)))) (fun s => if s = grs G r then rvs G f (gry G r) else f s) := by
      intro s hs
      show _ = eI (if s = grs G r then rvs G f (gry G r) else f s)
      by_cases e : s = grs G r
      · rw [if_pos e, e, st2_s, eI_n (by omega)]
      · rw [if_neg e, st2_k _ _ _ e]
        exact h s hs
    rw [e, b1_some]
    unfold m_Sr_shorten f_Sr_shorten_0
    rw [if_neg (nI_pos (by omega)), l_6, if_neg (nI_ge hs6 (by omega)), if_neg (nI_neg (by omega)), ck_n hs6 (by omega), nI_clamp (by omega), h _ hs6]
    by_cases z : f (grs G r) = 0
    · refine ⟨_, _, Or.inr (Or.inr ⟨ok, Or.inl z, rfl⟩), upd, ?_⟩
      rw [z, eI_0, if_pos rfl, ck_n hs6 (by omega), nm_d, b1_some]
    · rw [eI_n z, if_neg (nI_neg (by omega)), ck_n hs6 (by omega)]
      by_cases c : f (grs G r) ≤ rvs G f (gry G r)
      · refine ⟨f, σ, Or.inr (Or.inl ⟨ok, z, c, rfl⟩), h, ?_⟩
        rw [if_pos (nI_le c (by omega)), b1_some]
      · refine ⟨_, _, Or.inr (Or.inr ⟨ok, Or.inr (by omega), rfl⟩), upd, ?_⟩
        rw [if_neg (nI_ge (by omega) (by omega)), ck_n hs6 (by omega), nm_d, b1_some]
  · refine ⟨f, σ, Or.inl ⟨ok, rfl⟩, h, ?_⟩
    rw [e, b1_some]
    unfold m_Sr_shorten f_Sr_shorten_0
    rw [if_neg (nI_pos (by omega)), l_6, if_neg (nI_ge hs6 (by omega)), if_pos rfl, b1_some]
theorem p_lf31 {N : Nat} (hN : 9 ≤ N) {γ : Nat → Nat → Int32} {G : Gm} (hG : GrOK γ G) (v1 v2 : Int32) (kx : (Nat → Nat → Int32) → Option (Int32 × (Nat → Nat → Int32))) : ∀ (d q n : Nat) (σ : Nat → Nat → Int32) (f : Nat → Nat), q + d = gR G → d < n → Bd f → ShL σ f → ∃ f' σ', Ups G d q f f' ∧ ShL σ' f' ∧ l_Sr_lengthFor_31 N γ v1 v2 kx n σ (nI q) = kx σ' := by
  have hR := hG.1.2.2.1
  intro d
  induction d with
  | zero =>
    intro q n σ f hq hn hb h
    obtain ⟨n, rfl⟩ : ∃ m, n = m + 1 := ⟨n - 1, by omega⟩
    have : q = gR G := by omega
    subst this
    refine ⟨f, σ, rfl, h, ?_⟩
    unfold l_Sr_lengthFor_31 f_Sr_lengthFor_31
    rw [hG.2.2.2.1, if_pos (nI_le (Nat.le_refl _) (by omega))]
  | succ d ih =>
    intro q n σ f hq hn hb h
    obtain ⟨n, rfl⟩ : ∃ m, n = m + 1 := ⟨n - 1, by omega⟩
    obtain ⟨f1, σ1, a1, a2, a3⟩ := p_up hN hG hb h (show q < gR G by omega) (fun s_self_6 => nm (nI q + 1) fun v3_8 => l_Sr_lengthFor_31 N γ v1 v2 kx n s_self_6 v3_8)
    obtain ⟨f', σ', b1, b2, b3⟩ := ih (q + 1) n σ1 f1 (by omega) (by omega) (a1.bd hG.1 (by omega) hb) a2
    refine ⟨f', σ', ⟨f1, a1, b1⟩, b2, ?_⟩
    unfold l_Sr_lengthFor_31 f_Sr_lengthFor_31
    rw [hG.2.2.2.1, if_neg (nI_ge (by omega) (by omega)), g_sort_r hG (by omega), b1_some, a3, nm_d, nI_1]
    exact b3
theorem p_lf23 {N : Nat} (hN : 31 ≤ N) {γ : Nat → Nat → Int32} {G : Gm} (hG : GrOK γ G) {m : Nat → Nat} (cm : Cl G m) (mn : ∀ g, Cl G g → Ab m g) (v1 : Int32) (kx : (Nat → Nat → Int32) → Option (Int32 × (Nat → Nat → Int32))) : ∀ (d q n : Nat) (σ : Nat → Nat → Int32) (f : Nat → Nat), q + d = 6 → d < n → Bd f → ShL σ f → Ab f m → ((∀ s, f s = m s) ∨ nd m f ≤ d) → ∃ σ', ShL σ' m ∧ l_Sr_lengthFor_23 N γ v1 kx n σ (nI q) = kx σ' := by
  have hR := hG.1.2.2.1
  intro d
  induction d with
  | zero =>
    intro q n σ f hq hn hb h ab hd
    obtain ⟨n, rfl⟩ : ∃ m, n = m + 1 := ⟨n - 1, by omega⟩
    have : q = 6 := by omega
    subst this
    refine ⟨σ, fun s hs => ?_, ?_⟩
    · rw [h s hs]
      congr 1
      rcases hd with hd | hd
      · exact hd s
      · apply Classical.byContradiction
        intro e
        have : b01 (if f s = m s then 0 else 1) = 1 := by rw [if_neg e]; rfl
        unfold nd at hd
        match s, hs with
        | 0, _ => omega
        | 1, _ => omega
        | 2, _ => omega
        | 3, _ => omega
        | 4, _ => omega
        | 5, _ => omega
    · unfold l_Sr_lengthFor_23 f_Sr_lengthFor_23
      rw [l_6, if_pos (nI_le (Nat.le_refl _) (by omega))]
  | succ d ih =>
    intro q n σ f hq hn hb h ab hd
    obtain ⟨n, rfl⟩ : ∃ m, n = m + 1 := ⟨n - 1, by omega⟩
    obtain ⟨f1, σ1, a1, a2, a3⟩ := p_lf31 (N := N) (by omega) hG v1 (nI q) (fun s_self => f_Sr_lengthFor_65 N (l_Sr_lengthFor_23 N γ v1 kx n) kx s_self γ v1 (nI q)) (gR G) 0 N σ f (by omega) (by omega) hb h
    obtain ⟨r1, r2⟩ := round hG.1 cm mn ab a1
    obtain ⟨i1, i2, _⟩ := Ups.all hG.1 a1 (by omega)
    obtain ⟨σ', b1, b2⟩ := ih (q + 1) n σ1 f1 (by omega) (by omega) (i2 hb) a2 r1 (by
      rcases hd with hd | hd
      · exact Or.inl (fun s => done_stays i1 r1 (hd s))
      · rcases r2 with r2 | r2
        · exact Or.inl r2
        · exact Or.inr (by omega))
    refine ⟨σ', b1, ?_⟩
    rw [nI_0] at a3
    unfold l_Sr_lengthFor_23 f_Sr_lengthFor_23
    rw [l_6, if_neg (nI_ge (by omega) (by omega)), a3]
    unfold f_Sr_lengthFor_65
    rw [nm_d, nI_1]
    exact b2
theorem p_lf2 {N : Nat} {γ : Nat → Nat → Int32} (v1 : Int32) (kx : (Nat → Nat → Int32) → Option (Int32 × (Nat → Nat → Int32))) : ∀ (d q n : Nat) (σ : Nat → Nat → Int32), q + d = 6 → d < n → (∀ s, s < q → σ 1 s = -1) → ∃ σ', ShL σ' (fun _ => 0) ∧ l_Sr_lengthFor_2 N γ v1 kx n σ (nI q) = kx σ' := by
  intro d
  induction d with
  | zero =>
    intro q n σ hq hn h
    obtain ⟨n, rfl⟩ : ∃ m, n = m + 1 := ⟨n - 1, by omega⟩
    have : q = 6 := by omega
    subst this
    refine ⟨σ, h, ?_⟩
    unfold l_Sr_lengthFor_2 f_Sr_lengthFor_2
    rw [l_6, if_pos (nI_le (Nat.le_refl _) (by omega))]
  | succ d ih =>
    intro q n σ hq hn h
    obtain ⟨n, rfl⟩ : ∃ m, n = m + 1 := ⟨n - 1, by omega⟩
    obtain ⟨σ', b1, b2⟩ := ih (q + 1) n (st2 σ 1 q (-1)) (by omega) (by omega) (fun s hs => by
      by_cases e : s = q
      · subst e
        exact st2_s _ _ _ _
      · rw [st2_k _ _ _ e]
        exact h s (by omega))
    refine ⟨σ', b1, ?_⟩
    unfold l_Sr_lengthFor_2 f_Sr_lengthFor_2
    rw [l_6, if_neg (nI_ge (by omega) (by omega)), ck_n (by omega) (by omega), nI_clamp (by omega), nm_d, nm_d, nI_1]
    exact b2
theorem Ab_0 (g : Nat → Nat) : Ab (fun _ => 0) g := fun _ hs => absurd rfl hs
theorem Bd_0 : Bd (fun _ => 0) := fun _ => Nat.zero_le _
theorem p_Rt_shortest {N : Nat} (hN : 31 ≤ N) {x γ σ : Nat → Nat → Int32} {G : Gm} (hG : GrOK γ G) {m : Nat → Nat} (cm : Cl G m) (mn : ∀ g, Cl G g → Ab m g) {s : Nat} (hs : s < gS G) : ∃ σ', m_Rt_shortest N x γ σ (nI s) = some (eI (m s), σ') := by
  have h6 := hG.1.1
  obtain ⟨σ1, a1, a2⟩ := p_lf2 (N := N) (γ := γ) (nI s) (fun s_self => f_Sr_lengthFor_21 N s_self γ (nI s)) 6 0 N σ (by omega) (by omega) (fun s hs => by omega)
  obtain ⟨σ2, b1, b2⟩ := p_lf23 hN hG cm mn (nI s) (fun s_self => f_Sr_lengthFor_71 N s_self γ (nI s)) 6 0 N σ1 (fun _ => 0) (by omega) (by omega) Bd_0 a1 (Ab_0 m) (Or.inr (nd_le _ _))
  refine ⟨σ2, ?_⟩
  have hsort : m_Gr_hasSort γ (nI s) = some 1 := by
    unfold m_Gr_hasSort f_Gr_hasSort_0
    rw [if_neg (nI_pos (by omega)), hG.2.1, if_neg (nI_ge hs (by omega))]
  unfold m_Rt_shortest f_Rt_shortest_0 m_Sr_lengthFor f_Sr_lengthFor_0
  rw [nI_0] at a2 b2
  rw [hsort, b1_some, if_neg (by decide), a2]
  unfold f_Sr_lengthFor_21
  rw [b2]
  unfold f_Sr_lengthFor_71
  rw [p_soFar b1 (by omega), b1_some, b2_some]
