/-! which sorts unit rules lead to -/
theorem and1 (y : BitVec 32) : (y &&& 1#32 = 1#32) ↔ y.getLsbD 0 = true := by
  rw [BitVec.and_one_eq_setWidth_ofBool_getLsbD]
  cases y.getLsbD 0 <;> decide
def bit (x : Int32) (b : Nat) : Prop := ((x >>> (nI b &&& 31)) &&& 1) = 1
theorem bit_iff (x : Int32) : ∀ b, b < 6 → (bit x b ↔ x.toBitVec.getLsbD b = true) := by
  have key : ∀ b : Nat, b < 6 → (nI b &&& 31).toBitVec.smod 32 = BitVec.ofNat 32 b := by decide
  intro b hb
  unfold bit
  rw [← Int32.toBitVec_inj, Int32.toBitVec_and, Int32.toBitVec_shiftRight, key b hb]
  show (_ &&& 1#32 = 1#32) ↔ _
  rw [and1]
  have e : (BitVec.ofNat 32 b).toNat = b := by
    rw [BitVec.toNat_ofNat]; exact Nat.mod_eq_of_lt (by omega)
  rw [BitVec.sshiftRight_eq', e, BitVec.getLsbD_sshiftRight]
  simp
  omega
theorem bit_or (x y : Int32) {b : Nat} (hb : b < 6) : bit (x ||| y) b ↔ bit x b ∨ bit y b := by
  rw [bit_iff _ b hb, bit_iff _ b hb, bit_iff _ b hb, Int32.toBitVec_or, BitVec.getLsbD_or]
  simp
theorem bit_one : ∀ p, p < 6 → ∀ b, b < 6 → (bit (1 <<< (nI p &&& 31)) b ↔ b = p) := by
  unfold bit
  decide
theorem bit_zero : ∀ b, b < 6 → ¬ bit 0 b := by
  unfold bit
  decide
def Rq (G : Gm) (q s b : Nat) : Prop := ∃ u, u ≠ [] ∧ (∀ r, r ∈ u → r < q) ∧ Pv G s u ∧ pe G s u = b
theorem Rq_mono {G : Gm} {q s b : Nat} (h : Rq G q s b) : Rq G (q + 1) s b := by
  obtain ⟨u, h1, h2, h3, h4⟩ := h
  exact ⟨u, h1, fun r hr => by have := h2 r hr; omega, h3, h4⟩
theorem Rq_trans {G : Gm} {q s t b : Nat} (h : Rq G q s t) (k : Rq G q t b) : Rq G q s b := by
  obtain ⟨u, h1, h2, h3, h4⟩ := h
  obtain ⟨w, k1, k2, k3, k4⟩ := k
  refine ⟨u ++ w, by simp [h1], fun r hr => ?_, (Pv_app _ _ _).mpr ⟨h3, by rw [h4]; exact k3⟩, by rw [pe_app, h4, k4]⟩
  rcases List.mem_append.mp hr with hr | hr
  · exact h2 r hr
  · exact k2 r hr
theorem Rq_one {G : Gm} {q r : Nat} (hr : r < gR G) (hq : r < q) (hu : isU G r) : Rq G q (grs G r) (uS G r) :=
  ⟨[r], by simp, fun z hz => by simp at hz; omega, ⟨hr, hu, rfl, trivial⟩, rfl⟩
theorem Rq_step {G : Gm} {q : Nat} (hq : q < gR G) (hu : isU G q) {s b : Nat} : Rq G (q + 1) s b ↔ Rq G q s b ∨ ((s = grs G q ∨ Rq G q s (grs G q)) ∧ (Rq G q (uS G q) b ∨ b = uS G q)) := by
  constructor
  · rintro ⟨u, h1, h2, h3, h4⟩
    have key : ∀ (u : List Nat) (s : Nat), u ≠ [] → (∀ r, r ∈ u → r < q + 1) → Pv G s u → pe G s u = b → Rq G q s b ∨ ((s = grs G q ∨ Rq G q s (grs G q)) ∧ (Rq G q (uS G q) b ∨ b = uS G q)) := by
      intro u
      induction u with
      | nil => intro s h; exact absurd rfl h
      | cons r u ih =>
        intro s _ h2 h3 h4
        obtain ⟨p1, p2, p3, p4⟩ := h3
        have hrq := h2 r List.mem_cons_self
        by_cases e : r = q
        · subst e
          right
          refine ⟨Or.inl p3.symm, ?_⟩
          by_cases eu : u = []
          · subst eu
            exact Or.inr h4.symm
          · rcases ih (uS G r) eu (fun z hz => h2 z (List.mem_cons_of_mem _ hz)) p4 h4 with h | ⟨_, h⟩
            · exact Or.inl h
            · exact h
        · have h1r : Rq G q s (uS G r) := by
            rw [← p3]
            exact Rq_one p1 (by omega) p2
          by_cases eu : u = []
          · subst eu
            left
            have : uS G r = b := h4
            rw [← this]
            exact h1r
          · rcases ih (uS G r) eu (fun z hz => h2 z (List.mem_cons_of_mem _ hz)) p4 h4 with h | ⟨h | h, k⟩
            · exact Or.inl (Rq_trans h1r h)
            · exact Or.inr ⟨Or.inr (h ▸ h1r), k⟩
            · exact Or.inr ⟨Or.inr (Rq_trans h1r h), k⟩
    exact key u s h1 h2 h3 h4
  · have h0 : Rq G (q + 1) (grs G q) (uS G q) := Rq_one hq (by omega) hu
    rintro (h | ⟨h, k⟩)
    · exact Rq_mono h
    · have h1 : Rq G (q + 1) s (uS G q) := by
        rcases h with h | h
        · rw [h]; exact h0
        · exact Rq_trans (Rq_mono h) h0
      rcases k with k | k
      · exact Rq_trans h1 (Rq_mono k)
      · rw [k]; exact h1
theorem Rq_skip {G : Gm} {q : Nat} (hu : ¬ isU G q) {s b : Nat} : Rq G (q + 1) s b ↔ Rq G q s b := by
  constructor
  · rintro ⟨u, h1, h2, h3, h4⟩
    refine ⟨u, h1, fun r hr => ?_, h3, h4⟩
    have := h2 r hr
    by_cases e : r = q
    · exfalso
      subst e
      obtain ⟨a, c, e⟩ := List.append_of_mem hr
      rw [e, Pv_app] at h3
      exact hu h3.2.2.1
    · omega
  · exact Rq_mono
theorem Rq_full {G : Gm} {s b : Nat} : Rq G (gR G) s b ↔ ∃ u, u ≠ [] ∧ Pv G s u ∧ pe G s u = b := by
  constructor
  · rintro ⟨u, h1, _, h3, h4⟩
    exact ⟨u, h1, h3, h4⟩
  · rintro ⟨u, h1, h3, h4⟩
    refine ⟨u, h1, ?_, h3, h4⟩
    have key : ∀ (u : List Nat) (s : Nat), Pv G s u → ∀ r, r ∈ u → r < gR G := by
      intro u
      induction u with
      | nil => intro s _ r hr; simp at hr
      | cons q u ih =>
        intro s h r hr
        rcases List.mem_cons.mp hr with rfl | hr
        · exact h.1
        · exact ih _ h.2.2.2 r hr
    exact key u s h3
theorem p_reaches {χ : Nat → Nat → Int32} {s b : Nat} (hs : s < 6) : (bit (χ 4 s) b ∧ m_Ch_reaches χ (nI s) (nI b) = some 1) ∨ (¬ bit (χ 4 s) b ∧ m_Ch_reaches χ (nI s) (nI b) = some 0) := by
  unfold m_Ch_reaches f_Ch_reaches_0
  rw [if_neg (nI_pos (by omega)), l_6, if_neg (nI_ge hs (by omega)), ck_n hs (by omega), nI_clamp (by omega)]
  by_cases c : bit (χ 4 s) b
  · left
    refine ⟨c, ?_⟩
    unfold bit at c
    rw [if_pos c]
  · right
    refine ⟨c, ?_⟩
    unfold bit at c
    rw [if_neg c]
theorem p_reachFurther_25 {N : Nat} {w g : Nat} (hw : w < 6) (gv : Int32) (χ0 : Nat → Nat → Int32) (kx : (Nat → Nat → Int32) → Option (Nat → Nat → Int32)) : ∀ (d s n : Nat) (χ : Nat → Nat → Int32), s + d = 6 → d < n → (∀ b, b ≠ 4 → χ b = χ0 b) → (∀ t, s ≤ t → χ 4 t = χ0 4 t) → (∀ t, t < s → ∀ b, b < 6 → (bit (χ 4 t) b ↔ bit (χ0 4 t) b ∨ ((t = w ∨ bit (χ0 4 t) w) ∧ bit gv b))) →
    ∃ χ', (∀ b, b ≠ 4 → χ' b = χ0 b) ∧ (∀ t, t < 6 → ∀ b, b < 6 → (bit (χ' 4 t) b ↔ bit (χ0 4 t) b ∨ ((t = w ∨ bit (χ0 4 t) w) ∧ bit gv b))) ∧ l_Ch_reachFurther_25 N (nI w) gv kx n χ (nI s) = kx χ' := by
  intro d
  induction d with
  | zero =>
    intro s n χ hs hn h1 h2 h3
    obtain ⟨m, rfl⟩ : ∃ m, n = m + 1 := ⟨n - 1, by omega⟩
    have : s = 6 := by omega
    subst this
    refine ⟨χ, h1, h3, ?_⟩
    unfold l_Ch_reachFurther_25 f_Ch_reachFurther_25
    rw [l_6, if_pos (nI_le (Nat.le_refl _) (by omega))]
  | succ d ih =>
    intro s n χ hs hn h1 h2 h3
    obtain ⟨m, rfl⟩ : ∃ m, n = m + 1 := ⟨n - 1, by omega⟩
    have hs6 : s < 6 := by omega
    have hes := h2 s (Nat.le_refl _)
    have step : l_Ch_reachFurther_25 N (nI w) gv kx (m + 1) χ (nI s) = f_Ch_reachFurther_25 N (l_Ch_reachFurther_25 N (nI w) gv kx m) kx χ (nI w) gv (nI s) := rfl
    unfold f_Ch_reachFurther_25 f_Ch_reachFurther_48 at step
    rw [l_6, if_neg (nI_ge hs6 (by omega)), ck_n hs6 (by omega), ck_n hs6 (by omega), nm_d, nI_clamp (by omega), nm_d, nI_1, nm_d] at step
    have upd1 : (s = w ∨ bit (χ0 4 s) w) → ∃ χ', (∀ b, b ≠ 4 → χ' b = χ0 b) ∧ (∀ t, t < 6 → ∀ b, b < 6 → (bit (χ' 4 t) b ↔ bit (χ0 4 t) b ∨ ((t = w ∨ bit (χ0 4 t) w) ∧ bit gv b))) ∧ l_Ch_reachFurther_25 N (nI w) gv kx m (st2 χ 4 s (χ 4 s ||| gv)) (nI (s + 1)) = kx χ' := by
      intro hc
      refine ih (s + 1) m _ (by omega) (by omega) (fun b hb => by rw [st2_a _ _ _ hb]; exact h1 b hb) (fun t ht => by rw [st2_k _ _ _ (by omega)]; exact h2 t (by omega)) (fun t ht b hb => ?_)
      by_cases e : t = s
      · subst e
        rw [st2_s, bit_or _ _ hb, hes]
        constructor
        · rintro (h | h)
          · exact Or.inl h
          · exact Or.inr ⟨hc, h⟩
        · rintro (h | ⟨_, h⟩)
          · exact Or.inl h
          · exact Or.inr h
      · rw [st2_k _ _ _ e]
        exact h3 t (by omega) b hb
    by_cases e : s = w
    · obtain ⟨χ', g1, g2, g3⟩ := upd1 (Or.inl e)
      refine ⟨χ', g1, g2, ?_⟩
      rw [step, if_pos (by rw [e])]
      exact g3
    · rw [if_neg (fun q => e (nI_inj (by omega) (by omega) q))] at step
      rcases p_reaches (χ := χ) (b := w) hs6 with ⟨c, e2⟩ | ⟨c, e2⟩
      · rw [hes] at c
        obtain ⟨χ', g1, g2, g3⟩ := upd1 (Or.inr c)
        refine ⟨χ', g1, g2, ?_⟩
        rw [step, e2, b1_some, if_neg (by decide)]
        exact g3
      · rw [hes] at c
        obtain ⟨χ', g1, g2, g3⟩ := ih (s + 1) m χ (by omega) (by omega) h1 (fun t ht => h2 t (by omega)) (fun t ht b hb => by
          by_cases e' : t = s
          · subst e'
            rw [hes]
            constructor
            · exact fun h => Or.inl h
            · rintro (h | ⟨h | h, _⟩)
              · exact h
              · exact absurd h e
              · exact absurd h c
          · exact h3 t (by omega) b hb)
        refine ⟨χ', g1, g2, ?_⟩
        rw [step, e2, b1_some, if_pos rfl]
        exact g3
theorem p_reachFurther {N : Nat} (hN : 7 ≤ N) {χ : Nat → Nat → Int32} {w p : Nat} (hw : w < 6) (hp : p < 6) : ∃ χ', (∀ b, b ≠ 4 → χ' b = χ b) ∧ (∀ t, t < 6 → ∀ b, b < 6 → (bit (χ' 4 t) b ↔ bit (χ 4 t) b ∨ ((t = w ∨ bit (χ 4 t) w) ∧ (bit (χ 4 p) b ∨ b = p)))) ∧ m_Ch_reachFurther N χ (nI w) (nI p) = some χ' := by
  obtain ⟨χ', g1, g2, g3⟩ := p_reachFurther_25 (N := N) (g := 0) hw (χ 4 p ||| (1 <<< (nI p &&& 31))) χ (fun s_self => f_Ch_reachFurther_65 N s_self) 6 0 N χ (by omega) (by omega) (fun _ _ => rfl) (fun _ _ => rfl) (fun t ht => by omega)
  refine ⟨χ', g1, fun t ht b hb => ?_, ?_⟩
  · rw [g2 t ht b hb, bit_or _ _ hb, bit_one p hp b hb]
  · unfold m_Ch_reachFurther f_Ch_reachFurther_0
    rw [if_neg (nI_pos (by omega)), l_6, if_pos (of_eq_true (c_lt_t hp (by omega))), ck_n hp (by omega), nm_d, nI_clamp (by omega), ← nI_0]
    exact g3
