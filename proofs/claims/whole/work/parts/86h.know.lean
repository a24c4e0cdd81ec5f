/-! all stretches of the row, in the model -/
def MdW (μ : Nat → Nat → Int32) (w : List Int32) : Prop := μ 0 10 = nI w.length ∧ w.length ≤ 12 ∧ ∀ k, k < w.length → μ 5 k = w.getD k 0
def Kn (μ : Nat → Nat → Int32) (G : Gm) (l : Nat) : Prop := ∀ s, s < gS G → ∀ i j, i < j → j ≤ l → MF μ (mO s i j) (Sy G s (sg (μ 5) i j))
def Fk (μ μ' : Nat → Nat → Int32) : Prop := (∀ b, b ≠ 0 → (b < 7 ∨ 18 < b) → μ' b = μ b) ∧ ∀ k, k ≠ 14 → k ≠ 19 → k ≠ 25 → k ≠ 26 → μ' 0 k = μ 0 k
theorem Fk.refl (μ : Nat → Nat → Int32) : Fk μ μ := ⟨fun _ _ _ => rfl, fun _ _ _ _ _ => rfl⟩
theorem Fk.trans {μ μ' μ'' : Nat → Nat → Int32} (h : Fk μ μ') (k : Fk μ' μ'') : Fk μ μ'' := ⟨fun b b0 hb => by rw [k.1 b b0 hb, h.1 b b0 hb], fun z z0 z1 z2 z3 => by rw [k.2 z z0 z1 z2 z3, h.2 z z0 z1 z2 z3]⟩
theorem Fs.fk {i j : Nat} {μ μ' : Nat → Nat → Int32} (h : Fs i j μ μ') : Fk μ μ' := ⟨fun b b0 hb => h.1 b b0 (by omega), fun z _ z1 z2 z3 => h.2.1 z z1 z2 z3⟩
theorem okW {G : Gm} {w : List Int32} (h : ∀ x, x ∈ w → okSym (gV G) x) {k : Nat} (hk : k < w.length) : okSym (gV G) (w.getD k 0) := by
  apply h
  rw [List.getD_eq_getElem?_getD, List.getElem?_eq_getElem hk]
  exact List.getElem_mem hk
theorem q_know29 {N : Nat} (hN : NB ≤ N) {G : Gm} {w : List Int32} (hok : ∀ x, x ∈ w → okSym (gV G) x) {n0 : Nat} (hn0 : 0 < n0) (hn1 : n0 ≤ w.length) (kx : (Nat → Nat → Int32) → Option (Nat → Nat → Int32)) : ∀ (d i f : Nat) (μ : Nat → Nat → Int32), i + d + n0 = w.length + 1 → d < f → MdG μ G → CmOK μ G → MdW μ w → (∀ s, s < gS G → ∀ i' j', i' < j' → j' ≤ w.length → (j' - i' < n0 ∨ (j' - i' = n0 ∧ i' < i)) → MF μ (mO s i' j') (Sy G s (sg (μ 5) i' j'))) → ∃ μ', Fk μ μ' ∧ μ' 0 14 = μ 0 14 ∧ CmOK μ' G ∧ (∀ s, s < gS G → ∀ i' j', i' < j' → j' ≤ w.length → (j' - i' < n0 + 1) → MF μ' (mO s i' j') (Sy G s (sg (μ' 5) i' j'))) ∧ l_Md_know_29 N (nI n0) kx f μ (nI i) = kx μ' := by
  intro d
  induction d with
  | zero =>
    intro i f μ hi hf hG hC hW hF
    obtain ⟨n, rfl⟩ : ∃ m, f = m + 1 := ⟨f - 1, by omega⟩
    have hw := hW.2.1
    refine ⟨μ, Fk.refl _, rfl, hC, fun s hs i' j' h1 h2 h3 => hF s hs i' j' h1 h2 (by omega), ?_⟩
    unfold l_Md_know_29 f_Md_know_29
    rw [hW.1, nI_add, if_pos (of_eq_true (c_lt_t (by omega) (by omega)))]
  | succ d ih =>
    intro i f μ hi hf hG hC hW hF
    obtain ⟨n, rfl⟩ : ∃ m, f = m + 1 := ⟨f - 1, by omega⟩
    have hw := hW.2.1
    obtain ⟨μ1, a1, a2, a3⟩ := q_takeStretch hN hG hC (show i < i + n0 by omega) (by omega) (fun k h1 h2 => by rw [hW.2.2 k (by omega)]; exact okW hok (by omega)) (fun s hs i' j' h1 h2 h3 => hF s hs i' j' h1 (by omega) (by omega))
    have e5 : μ1 5 = μ 5 := a2.1 5 (by decide) (by omega)
    obtain ⟨μ', g1, g2, g3, g4, g5⟩ := ih (i + 1) n μ1 (by omega) (by omega) (hG.fs a2) (hC.of (a2.1 18 (by decide) (by omega))) ⟨by rw [a2.2.1 10 (by decide) (by decide) (by decide)]; exact hW.1, hw, fun k hk => by rw [e5]; exact hW.2.2 k hk⟩ (fun s hs i' j' h1 h2 h3 => by
      rw [e5]
      by_cases e : i' = i ∧ j' = i + n0
      · rw [e.1, e.2]
        exact a1 s hs
      · exact (hF s hs i' j' h1 h2 (by omega)).fs a2 (Oc_sub (by omega) (by omega) h1 (by omega) e))
    refine ⟨μ', a2.fk.trans g1, by rw [g2, a2.2.1 14 (by decide) (by decide) (by decide)], g3, g4, ?_⟩
    unfold l_Md_know_29 f_Md_know_29
    rw [hW.1, nI_add, if_neg (of_eq_false (c_lt_f (by omega) (by omega))), a3, b1_some, nm_d, nI_1]
    exact g5
theorem MdG.fk {μ μ' : Nat → Nat → Int32} {G : Gm} (h : MdG μ G) (k : Fk μ μ') : MdG μ' G :=
  h.fq (fun z hz => k.2 z (by omega) (by omega) (by omega) (by omega)) (fun b hb => k.1 b (by omega) (by omega))
theorem MdW.fk {μ μ' : Nat → Nat → Int32} {w : List Int32} (h : MdW μ w) (k : Fk μ μ') : MdW μ' w :=
  ⟨by rw [k.2 10 (by decide) (by decide) (by decide) (by decide)]; exact h.1, h.2.1, fun z hz => by rw [k.1 5 (by decide) (by omega)]; exact h.2.2 z hz⟩
theorem q_know19 {N : Nat} (hN : NB ≤ N) {G : Gm} {w : List Int32} (hok : ∀ x, x ∈ w → okSym (gV G) x) (kx : (Nat → Nat → Int32) → Option (Nat → Nat → Int32)) : ∀ (d n0 f : Nat) (μ : Nat → Nat → Int32), 0 < n0 → n0 + d = w.length + 1 → d < f → MdG μ G → CmOK μ G → MdW μ w → (∀ s, s < gS G → ∀ i' j', i' < j' → j' ≤ w.length → j' - i' < n0 → MF μ (mO s i' j') (Sy G s (sg (μ 5) i' j'))) → ∃ μ', Fk μ μ' ∧ μ' 0 14 = μ 0 14 ∧ Kn μ' G w.length ∧ l_Md_know_19 N kx f μ (nI n0) = kx μ' := by
  have hNB : 70000 ≤ NB := by unfold NB; omega
  intro d
  induction d with
  | zero =>
    intro n0 f μ h0 hi hf hG hC hW hF
    obtain ⟨n, rfl⟩ : ∃ m, f = m + 1 := ⟨f - 1, by omega⟩
    have hw := hW.2.1
    refine ⟨μ, Fk.refl _, rfl, fun s hs i' j' h1 h2 => hF s hs i' j' h1 h2 (by omega), ?_⟩
    unfold l_Md_know_19 f_Md_know_19
    rw [hW.1, if_pos (of_eq_true (c_lt_t (by omega) (by omega)))]
  | succ d ih =>
    intro n0 f μ h0 hi hf hG hC hW hF
    obtain ⟨n, rfl⟩ : ∃ m, f = m + 1 := ⟨f - 1, by omega⟩
    have hw := hW.2.1
    obtain ⟨μ1, a1, a2, a3, a4, a5⟩ := q_know29 hN hok h0 (by omega) (fun s_self => f_Md_know_53 N (l_Md_know_19 N kx n) kx s_self (nI n0)) (w.length + 1 - n0) 0 N μ (by omega) (by omega) hG hC hW (fun s hs i' j' h1 h2 h3 => hF s hs i' j' h1 h2 (by omega))
    obtain ⟨μ', g1, g2, g3, g4⟩ := ih (n0 + 1) n μ1 (by omega) (by omega) (by omega) (hG.fk a1) a3 (hW.fk a1) a4
    refine ⟨μ', a1.trans g1, by rw [g2, a2], g3, ?_⟩
    rw [nI_0] at a5
    unfold l_Md_know_19 f_Md_know_19
    rw [hW.1, if_neg (of_eq_false (c_lt_f (by omega) (by omega))), a5]
    unfold f_Md_know_53
    rw [nm_d, nI_1]
    exact g4
theorem q_know {N : Nat} (hN : NB ≤ N) {G : Gm} {w : List Int32} {μ : Nat → Nat → Int32} (hok : ∀ x, x ∈ w → okSym (gV G) x) (hG : MdG μ G) (hW : MdW μ w) (hK : μ 0 14 ≠ 0 → Kn μ G w.length) : ∃ μ', Fk μ μ' ∧ Kn μ' G w.length ∧ m_Md_know N μ = some μ' := by
  have hNB : 70000 ≤ NB := by unfold NB; omega
  unfold m_Md_know f_Md_know_0
  by_cases e : μ 0 14 = 0
  · rw [if_pos e, nm_d]
    have fk0 : Fk μ (st2 μ 0 14 1) := ⟨fun b b0 _ => st2_a _ _ _ b0, fun k k0 _ _ _ => st2_k _ _ _ k0⟩
    obtain ⟨μ1, a1, a2, a3⟩ := q_findComes (N := N) (by omega) (hG.fk fk0)
    have fk1 : Fk (st2 μ 0 14 1) μ1 := ⟨fun b _ hb => a1 b (by omega), fun k _ _ _ _ => by rw [a1 0 (by decide)]⟩
    have fk2 := fk0.trans fk1
    have hw := hW.2.1
    obtain ⟨μ', g1, g2, g3, g4⟩ := q_know19 hN hok (fun s_self => f_Md_know_59 N s_self) w.length 1 N μ1 (by omega) (by omega) (by omega) (hG.fk fk2) a2 (hW.fk fk2) (fun s hs i' j' h1 h2 h3 => by omega)
    refine ⟨μ', fk2.trans g1, g3, ?_⟩
    rw [a3, b1_some, show (1 : Int32) = nI 1 from rfl, g4]
    rfl
  · rw [if_neg e]
    exact ⟨μ, Fk.refl _, hK e, rfl⟩
