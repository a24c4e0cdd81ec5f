/-! one way of a rule: all its trees at once -/
def ar (G : Gm) (c : Int32) : Nat := if c < 0 then 0 else (dv (gry G c.toNatClampNeg)).length
theorem ar_r {G : Gm} {r : Nat} (h : r < 30) : ar G (nI r) = (dv (gry G r)).length := by
  unfold ar
  rw [if_neg (nI_pos (by omega)), nI_clamp (by omega)]
theorem ar_n {G : Gm} {x : Int32} (h : x < 0) : ar G x = 0 := if_pos h
def FS (τ : Nat → Nat → Int32) (C : Nat → List Int32) (ar : Int32 → Nat) (V Q : Nat → Prop) : Prop := TT τ C ar V Q ∧ (∀ t, V t → t < 936 ∧ (C t).length ≤ 150) ∧ PC τ
/-- a cell that has all of A: how many, and the two least -/
def CA (χ τ : Nat → Nat → Int32) (C : Nat → List Int32) (V : Nat → Prop) (c : Nat) (A : List Int32 → Prop) : Prop := ∃ v p, χ 1 c = nI v ∧ Cnt A v ∧ Pair τ C V c p ∧ Two A p
/-- nothing but cell c (and the draft) has changed -/
def Fr (c : Nat) (χ τ : Nat → Nat → Int32) (C : Nat → List Int32) (V : Nat → Prop) (χ' τ' : Nat → Nat → Int32) (C' : Nat → List Int32) (V' : Nat → Prop) : Prop :=
  (∀ k, k ≠ c → χ' 1 k = χ 1 k) ∧ ∀ t, t < 936 → t ≠ 2 * c → t ≠ 2 * c + 1 → (V' t ↔ V t) ∧ C' t = C t ∧ Sam τ τ' t
theorem Fr.refl (c : Nat) (χ τ : Nat → Nat → Int32) (C : Nat → List Int32) (V : Nat → Prop) : Fr c χ τ C V χ τ C V := ⟨fun _ _ => rfl, fun _ _ _ _ => ⟨Iff.rfl, rfl, Sam.refl _ _⟩⟩
theorem Fr.trans {c : Nat} {χ τ χ' τ' χ'' τ'' : Nat → Nat → Int32} {C C' C'' : Nat → List Int32} {V V' V'' : Nat → Prop} (h : Fr c χ τ C V χ' τ' C' V') (k : Fr c χ' τ' C' V' χ'' τ'' C'' V'') : Fr c χ τ C V χ'' τ'' C'' V'' := by
  refine ⟨fun z hz => by rw [k.1 z hz, h.1 z hz], fun t h1 h2 h3 => ?_⟩
  obtain ⟨a1, a2, a3⟩ := h.2 t h1 h2 h3
  obtain ⟨b1, b2, b3⟩ := k.2 t h1 h2 h3
  exact ⟨b1.trans a1, b2.trans a2, a3.trans b3⟩
theorem Pair.frame {τ τ' : Nat → Nat → Int32} {C C' : Nat → List Int32} {V V' : Nat → Prop} {c : Nat} {p : List (List Int32)} (h : Pair τ C V c p) (e : ∀ t, t = 2 * c ∨ t = 2 * c + 1 → (V' t ↔ V t) ∧ C' t = C t ∧ τ' 1 t = τ 1 t) : Pair τ' C' V' c p := by
  obtain ⟨a1, a2, a3⟩ := e _ (Or.inl rfl)
  obtain ⟨b1, b2, b3⟩ := e _ (Or.inr rfl)
  unfold Pair
  rw [a1, a2, a3, b1, b2, b3]
  exact h
theorem CA.frame {χ τ χ' τ' : Nat → Nat → Int32} {C C' : Nat → List Int32} {V V' : Nat → Prop} {c c' : Nat} {A : List Int32 → Prop} (h : CA χ τ C V c' A) (hc : c' < 468) (hn : c' ≠ c) (k : Fr c χ τ C V χ' τ' C' V') : CA χ' τ' C' V' c' A := by
  obtain ⟨v, p, h1, h2, h3, h4⟩ := h
  refine ⟨v, p, by rw [k.1 c' hn]; exact h1, h2, h3.frame (fun t ht => ?_), h4⟩
  obtain ⟨x1, x2, x3⟩ := k.2 t (by omega) (by omega) (by omega)
  exact ⟨x1, x2, x3.1⟩
theorem CA.congr {χ τ : Nat → Nat → Int32} {C : Nat → List Int32} {V : Nat → Prop} {c : Nat} {A B : List Int32 → Prop} (h : CA χ τ C V c A) (k : ∀ e, A e ↔ B e) : CA χ τ C V c B := by
  obtain ⟨v, p, h1, h2, h3, h4⟩ := h
  exact ⟨v, p, h1, h2.congr k, h3, h4.congr k⟩
/-- the draft alone has changed -/
def Dch (τ τ' : Nat → Nat → Int32) : Prop := (∀ b, b ≠ 4 → ∀ t, t < 936 → τ' b t = τ b t) ∧ (∀ z, z < 3744 → τ' 4 z = τ 4 z) ∧ ∃ k, k ≤ 4 ∧ τ' 3 936 = nI k
theorem Dch.sam {τ τ' : Nat → Nat → Int32} (h : Dch τ τ') {t : Nat} (ht : t < 936) : Sam τ τ' t :=
  ⟨h.1 1 (by decide) t ht, h.1 2 (by decide) t ht, h.1 3 (by decide) t ht, fun _ _ => h.2.1 _ (by omega)⟩
theorem FS.draft {τ τ' : Nat → Nat → Int32} {C : Nat → List Int32} {ar : Int32 → Nat} {V Q : Nat → Prop} (h : FS τ C ar V Q) (k : Dch τ τ') : FS τ' C ar V Q := by
  obtain ⟨h1, h2, h3⟩ := h
  refine ⟨⟨fun t ht => ⟨(h1.1 t ht).1, ?_⟩, h1.2⟩, h2, fun t ht => ?_⟩
  · have h9 := (h2 t ht).1
    obtain ⟨ps, a1, a2, a3, a4, a5, a6, a7⟩ := (h1.1 t ht).2
    refine ⟨ps, ?_, a2, ?_, ?_, ?_, ?_, a7⟩
    · rw [k.1 2 (by decide) t h9]; exact a1
    · rw [k.1 3 (by decide) t h9]; exact a3
    · intro q hq
      rw [k.2.1 _ (by omega)]
      exact a4 q hq
    · rw [k.1 2 (by decide) t h9]; exact a5
    · rw [k.1 1 (by decide) t h9]; exact a6
  · by_cases c : t = 936
    · subst c; exact k.2.2
    · rw [k.1 3 (by decide) t (by omega)]
      exact h3 t ht
theorem cat_flat (f : Nat → List Int32) : ∀ m, ((List.range m).map f).flatten = cat f m
  | 0 => rfl
  | m + 1 => by
    rw [List.range_succ, List.map_append, List.flatten_append, cat_flat f m]
    simp [cat]
theorem map_map_flat (C : Nat → List Int32) (g : Nat → Nat) (m : Nat) : (((List.range m).map g).map C).flatten = cat (fun k => C (g k)) m := by
  rw [List.map_map]
  exact cat_flat _ m
theorem range_getD {α : Type} (g : Nat → α) {m k : Nat} {d : α} (h : k < m) : ((List.range m).map g).getD k d = g k := by
  simp [List.getD_eq_getElem?_getD, h]
theorem cat_len {F Y : Nat → List Int32} {j : Nat} : ∀ m, (∀ k, k < m → (F k).length + 6 ≤ 12 * (Y k).length + if k = j then 6 else 0) → (cat F m).length + 6 * m ≤ 12 * (cat Y m).length + if j < m then 6 else 0
  | 0, _ => by simp [cat]
  | m + 1, h => by
    have ih := cat_len m (fun k hk => h k (by omega))
    have h1 := h m (by omega)
    show (cat F m ++ F m).length + 6 * (m + 1) ≤ 12 * (cat Y m ++ Y m).length + _
    rw [List.length_append, List.length_append]
    by_cases c : m = j
    · subst c
      rw [if_neg (by omega)] at ih
      rw [if_pos rfl] at h1
      rw [if_pos (by omega)]
      omega
    · rw [if_neg c] at h1
      by_cases d : j < m
      · rw [if_pos d] at ih
        rw [if_pos (by omega)]
        omega
      · rw [if_neg d] at ih
        rw [if_neg (by omega)]
        omega
/-- what is known of the cells of a rule's parts -/
def Pt (G : Gm) (χ τ : Nat → Nat → Int32) (C : Nat → List Int32) (V Q : Nat → Prop) (a : Nat → Int32) (r : Nat) (f t : Nat → Nat) : Prop :=
  ∀ k, k < (dv (gry G r)).length → χ 5 k = nI (f k) ∧ χ 6 k = nI (t k) ∧ f k < t k ∧ t k ≤ 12 ∧ CA χ τ C V (cO (sX G ((dv (gry G r)).getD k 0)) (f k) (t k)) (Sy G (sX G ((dv (gry G r)).getD k 0)) (sg a (f k) (t k))) ∧ (∃ e, Sy G (sX G ((dv (gry G r)).getD k 0)) (sg a (f k) (t k)) e) ∧ ∀ b, b < 2 → V (2 * cO (sX G ((dv (gry G r)).getD k 0)) (f k) (t k) + b) → Q (2 * cO (sX G ((dv (gry G r)).getD k 0)) (f k) (t k) + b)
theorem dv_s6 {G : Gm} (h : GOK G) {r k : Nat} (hr : r < gR G) (hk : k < (dv (gry G r)).length) : sX G ((dv (gry G r)).getD k 0) < 6 := by
  obtain ⟨q1, q2⟩ := dv_mem.mp (getD_mem (d := (0 : Int32)) hk)
  exact okSym_sX6 h ((h.2.2.2.2 r hr).2.2.2.1 _ q1) q2
theorem p_partCell {γ χ : Nat → Nat → Int32} {G : Gm} (hG : GrOK γ G) {r k f t : Nat} (hr : r < gR G) (hk : k < (dv (gry G r)).length) (h5 : χ 5 k = nI f) (h6 : χ 6 k = nI t) (hf : f < t) (ht : t ≤ 12) : m_Ch_partCell χ γ (nI r) (nI k) = some (nI (cO (sX G ((dv (gry G r)).getD k 0)) f t)) := by
  have h4 := dv_le4 hG.1 hr
  unfold m_Ch_partCell f_Ch_partCell_0
  rw [g_slotSort hG hr hk]
  simp (disch := omega) only [nm_x, b1_some, b2_some, b3_some, b4_some, ck_n, nI_clamp, nI_add, nI_1, n_1add, pk_mul, n_sub, n_sub1, n_addm1, l_2, l_3, l_4, l_5, l_6, l_7, l_8, l_9, l_10, l_11, l_12, l_13, l_20, l_30, l_31, l_36, l_120, l_150, l_200, l_240, l_248, l_400, l_468, l_601, l_936, l_937, l_1000, l_1872, l_2600, l_3744, l_3748, l_374400, l_1000001, l_1000002, c_lt_t, c_lt_f, c_le_t, c_le_f, c_eq_t, c_eq_f, c_n0, c_0le, c_0lt, c_0lt_f, c_le0, c_le0_t, c_m1, c_m1l, c_ne0, c_eq0, c_eq1, c_ne1, c_lt1, c_1lt, c_1lt_f, m1_neg, if_true, if_false, h5, h6, p_cellOf (dv_s6 hG.1 hr hk) hf ht]
theorem p_addTrees_41 {N : Nat} {γ χ : Nat → Nat → Int32} {G : Gm} (hG : GrOK γ G) {C : Nat → List Int32} {V Q : Nat → Prop} {τ0 : Nat → Nat → Int32} {a : Nat → Int32} {r : Nat} (hr : r < gR G) {f t : Nat → Nat} (hP : Pt G χ τ0 C V Q a r f t) (c : Int32) (kx : (Nat → Nat → Int32) → Int32 → Option ((Nat → Nat → Int32) × (Nat → Nat → Int32))) :
    ∀ (d k n : Nat) (τ : Nat → Nat → Int32) (pr : Nat), k + d = (dv (gry G r)).length → d < n → Cnt (Pr G ((dv (gry G r)).take k) ((List.range k).map (fun q => sg a (f q) (t q)))) pr → (∀ q, q < k → τ 4 (3744 + q) = nI (2 * cO (sX G ((dv (gry G r)).getD q 0)) (f q) (t q))) →
      ∃ τ' pr', Cnt (Pr G (dv (gry G r)) ((List.range (dv (gry G r)).length).map (fun q => sg a (f q) (t q)))) pr' ∧ (∀ q, q < (dv (gry G r)).length → τ' 4 (3744 + q) = nI (2 * cO (sX G ((dv (gry G r)).getD q 0)) (f q) (t q))) ∧ (∀ b, b ≠ 4 → τ' b = τ b) ∧ (∀ z, z < 3744 → τ' 4 z = τ 4 z) ∧ l_Ch_addTrees_41 N χ γ (nI r) c (nI (dv (gry G r)).length) kx n τ (nI pr) (nI k) = kx τ' (nI pr') := by
  have h4 := dv_le4 hG.1 hr
  have hR := hG.1.2.2.1
  intro d
  induction d with
  | zero =>
    intro k n τ pr hk hn hc hp
    obtain ⟨m, rfl⟩ : ∃ m, n = m + 1 := ⟨n - 1, by omega⟩
    have e : k = (dv (gry G r)).length := by omega
    subst e
    rw [List.take_length] at hc
    refine ⟨τ, pr, hc, hp, fun _ _ => rfl, fun _ _ => rfl, ?_⟩
    unfold l_Ch_addTrees_41 f_Ch_addTrees_41
    simp (disch := omega) only [nm_x, b1_some, b2_some, b3_some, b4_some, ck_n, nI_clamp, nI_add, nI_1, n_1add, pk_mul, n_sub, n_sub1, n_addm1, l_2, l_3, l_4, l_5, l_6, l_7, l_8, l_9, l_10, l_11, l_12, l_13, l_20, l_30, l_31, l_36, l_120, l_150, l_200, l_240, l_248, l_400, l_468, l_601, l_936, l_937, l_1000, l_1872, l_2600, l_3744, l_3748, l_374400, l_1000001, l_1000002, c_lt_t, c_lt_f, c_le_t, c_le_f, c_eq_t, c_eq_f, c_n0, c_0le, c_0lt, c_0lt_f, c_le0, c_le0_t, c_m1, c_m1l, c_ne0, c_eq0, c_eq1, c_ne1, c_lt1, c_1lt, c_1lt_f, m1_neg, if_true, if_false]
  | succ d ih =>
    intro k n τ pr hk hn hc hp
    obtain ⟨m, rfl⟩ : ∃ m, n = m + 1 := ⟨n - 1, by omega⟩
    obtain ⟨k5, k6, kf, kt, ⟨v, p, w1, w2, w3, w4⟩, _, _⟩ := hP k (by omega)
    have hs6 := dv_s6 hG.1 hr (show k < (dv (gry G r)).length by omega)
    have hcl := cO_lt hs6 kf kt
    have hple := hc.le
    have hvle := w2.le
    have hc2 : Cnt (Pr G ((dv (gry G r)).take (k + 1)) ((List.range (k + 1)).map (fun q => sg a (f q) (t q)))) (wtimes pr v) := by
      have e1 : (dv (gry G r)).take (k + 1) = (dv (gry G r)).take k ++ [(dv (gry G r)).getD k 0] := by
        rw [List.getD_eq_getElem?_getD, List.getElem?_eq_getElem (by omega)]
        exact List.take_succ_eq_append_getElem (by omega)
      rw [e1, List.range_succ, List.map_append]
      refine (hc.prod w2 ?_).congr (fun e => ?_)
      · intro x x' y y' h1 h2 _ _ he
        obtain ⟨q1, _, q3⟩ := Pr_pre hR h1 h2 he
        exact ⟨q1, q3⟩
      · exact (Pr_snoc (by simp; omega)).symm
    obtain ⟨τ', pr', f1, f2, f3, f4, f5⟩ := ih (k + 1) m (st2 τ 4 (3744 + k) (nI (2 * cO (sX G ((dv (gry G r)).getD k 0)) (f k) (t k)))) (wtimes pr v) (by omega) (by omega) hc2 (fun q hq => by
      by_cases e : q = k
      · subst e
        rw [st2_s]
      · rw [st2_k _ _ _ (by omega)]
        exact hp q (by omega))
    refine ⟨τ', pr', f1, f2, fun b hb => by rw [f3 b hb, st2_a _ _ _ hb], fun z hz => by rw [f4 z hz, st2_k _ _ _ (by omega)], ?_⟩
    unfold l_Ch_addTrees_41 f_Ch_addTrees_41
    rw [p_partCell hG hr (by omega) k5 k6 kf kt]
    simp (disch := omega) only [nm_x, b1_some, b2_some, b3_some, b4_some, ck_n, nI_clamp, nI_add, nI_1, n_1add, pk_mul, n_sub, n_sub1, n_addm1, l_2, l_3, l_4, l_5, l_6, l_7, l_8, l_9, l_10, l_11, l_12, l_13, l_20, l_30, l_31, l_36, l_120, l_150, l_200, l_240, l_248, l_400, l_468, l_601, l_936, l_937, l_1000, l_1872, l_2600, l_3744, l_3748, l_374400, l_1000001, l_1000002, c_lt_t, c_lt_f, c_le_t, c_le_f, c_eq_t, c_eq_f, c_n0, c_0le, c_0lt, c_0lt_f, c_le0, c_le0_t, c_m1, c_m1l, c_ne0, c_eq0, c_eq1, c_ne1, c_lt1, c_1lt, c_1lt_f, m1_neg, if_true, if_false, p_waysAt hcl, w1, p_times hple hvle, p_treeOf0, p_setDraftPart (show k < 4 by omega) (show 2 * cO (sX G ((dv (gry G r)).getD k 0)) (f k) (t k) < 936 by omega)]
    exact f5
