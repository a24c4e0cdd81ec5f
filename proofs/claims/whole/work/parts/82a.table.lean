/-! the class's tree table: sizes 1, heads 2, part counts 3, parts 4, stacks 5 and 6; the draft is 936 -/
theorem p_sizeAt {τ : Nat → Nat → Int32} {t : Nat} (h : t ≤ 936) : m_Tt_sizeAt τ (nI t) = some (τ 1 t) := by
  unfold m_Tt_sizeAt f_Tt_sizeAt_0
  simp (disch := omega) only [nm_x, b1_some, b2_some, b3_some, b4_some, ck_n, nI_clamp, nI_add, nI_1, n_1add, pk_mul, n_sub, n_sub1, n_addm1, l_2, l_3, l_4, l_5, l_6, l_7, l_8, l_9, l_10, l_11, l_12, l_13, l_20, l_30, l_31, l_36, l_120, l_150, l_200, l_240, l_248, l_400, l_468, l_601, l_936, l_937, l_1000, l_1872, l_2600, l_3744, l_3748, l_374400, l_1000001, l_1000002, c_lt_t, c_lt_f, c_le_t, c_le_f, c_eq_t, c_eq_f, c_n0, c_0le, c_0lt, c_0lt_f, c_le0, c_le0_t, c_m1, c_m1l, c_ne0, c_eq0, c_eq1, c_ne1, c_lt1, c_1lt, c_1lt_f, m1_neg, if_true, if_false]
theorem p_sizeAt_m {τ : Nat → Nat → Int32} {x : Int32} (h : x < 0) : m_Tt_sizeAt τ x = some 0 := by
  unfold m_Tt_sizeAt f_Tt_sizeAt_0
  rw [if_pos h]
theorem p_isCell {c : Nat} (h : c < 468) : m_Tt_isCell (nI c) = some 1 := by
  unfold m_Tt_isCell f_Tt_isCell_0
  simp (disch := omega) only [nm_x, b1_some, b2_some, b3_some, b4_some, ck_n, nI_clamp, nI_add, nI_1, n_1add, pk_mul, n_sub, n_sub1, n_addm1, l_2, l_3, l_4, l_5, l_6, l_7, l_8, l_9, l_10, l_11, l_12, l_13, l_20, l_30, l_31, l_36, l_120, l_150, l_200, l_240, l_248, l_400, l_468, l_601, l_936, l_937, l_1000, l_1872, l_2600, l_3744, l_3748, l_374400, l_1000001, l_1000002, c_lt_t, c_lt_f, c_le_t, c_le_f, c_eq_t, c_eq_f, c_n0, c_0le, c_0lt, c_0lt_f, c_le0, c_le0_t, c_m1, c_m1l, c_ne0, c_eq0, c_eq1, c_ne1, c_lt1, c_1lt, c_1lt_f, m1_neg, if_true, if_false]
theorem p_isCell_m {x : Int32} (h : x < 0) : m_Tt_isCell x = some 0 := by
  unfold m_Tt_isCell f_Tt_isCell_0
  rw [if_pos h]
theorem p_treeOf0 {c : Nat} : m_Tt_treeOf (nI c) 0 = some (nI (2 * c)) := by
  unfold m_Tt_treeOf f_Tt_treeOf_0
  rw [l_2, pk_mul, ← nI_0, nI_add, Nat.add_zero]
theorem p_treeOf1 {c : Nat} : m_Tt_treeOf (nI c) 1 = some (nI (2 * c + 1)) := by
  unfold m_Tt_treeOf f_Tt_treeOf_0
  rw [l_2, pk_mul, nI_1]
/-- counting down to -1 -/
def dn (j : Nat) : Int32 := nI j - 1
theorem dn_0 : dn 0 = -1 := by decide
theorem dn_s (j : Nat) : dn (j + 1) = nI j := nI_pred j
theorem dn_m (j : Nat) : nI j + (-1) = dn j := by
  unfold dn
  rw [Int32.sub_eq_add_neg]
theorem dn_neg : (dn 0 < 0) = True := by decide
/-- tree t of the table, told by the codes C; its parts are in Q -/
def Tk (τ : Nat → Nat → Int32) (C : Nat → List Int32) (ar : Int32 → Nat) (Q : Nat → Prop) (t : Nat) : Prop :=
  ∃ ps : List Nat, ps.length = ar (τ 2 t) ∧ ps.length ≤ 4 ∧ τ 3 t = nI ps.length ∧ (∀ k, k < ps.length → τ 4 (4 * t + k) = nI (ps.getD k 0) ∧ Q (ps.getD k 0)) ∧ C t = τ 2 t :: (ps.map C).flatten ∧ τ 1 t = nI (C t).length ∧ (C t).length ≤ 1000
def TT (τ : Nat → Nat → Int32) (C : Nat → List Int32) (ar : Int32 → Nat) (V Q : Nat → Prop) : Prop := (∀ t, V t → t ≤ 936 ∧ Tk τ C ar Q t) ∧ ∀ t, Q t → V t
/-- a stack, its bottom first -/
def StK (τ : Nat → Nat → Int32) (a : Nat) (q : List Nat) : Prop := ∀ k, k < q.length → τ a k = nI (q.getD k 0)
theorem Tk.frame {τ τ' : Nat → Nat → Int32} {C : Nat → List Int32} {ar : Int32 → Nat} {Q : Nat → Prop} {t : Nat} (h : Tk τ C ar Q t) (e : ∀ c, c ≠ 5 → c ≠ 6 → τ' c = τ c) : Tk τ' C ar Q t := by
  unfold Tk
  rw [e 1 (by decide) (by decide), e 2 (by decide) (by decide), e 3 (by decide) (by decide), e 4 (by decide) (by decide)]
  exact h
theorem TT.frame {τ τ' : Nat → Nat → Int32} {C : Nat → List Int32} {ar : Int32 → Nat} {V Q : Nat → Prop} (h : TT τ C ar V Q) (e : ∀ c, c ≠ 5 → c ≠ 6 → τ' c = τ c) : TT τ' C ar V Q :=
  ⟨fun t ht => ⟨(h.1 t ht).1, (h.1 t ht).2.frame e⟩, h.2⟩
theorem getD_snoc_lt {α : Type} {q r : List α} {d : α} {k : Nat} (h : k < q.length) : (q ++ r).getD k d = q.getD k d := by
  simp [List.getD_eq_getElem?_getD, List.getElem?_append, h]
theorem getD_snoc_eq {α : Type} {q : List α} {x d : α} : (q ++ [x]).getD q.length d = x := by
  simp [List.getD_eq_getElem?_getD]
theorem StK.push {τ : Nat → Nat → Int32} {a : Nat} {q : List Nat} (h : StK τ a q) (p : Nat) : StK (st2 τ a q.length (nI p)) a (q ++ [p]) := by
  intro k hk
  simp only [List.length_append, List.length_cons, List.length_nil] at hk
  by_cases c : k = q.length
  · subst c
    rw [st2_s, getD_snoc_eq]
  · rw [st2_k _ _ _ c, getD_snoc_lt (by omega)]
    exact h k (by omega)
theorem StK.pop {τ : Nat → Nat → Int32} {a : Nat} {q r : List Nat} (h : StK τ a (q ++ r)) : StK τ a q := by
  intro k hk
  have := h k (by simp only [List.length_append]; omega)
  rw [getD_snoc_lt hk] at this
  exact this
theorem StK.top {τ : Nat → Nat → Int32} {a : Nat} {q : List Nat} {p : Nat} (h : StK τ a (q ++ [p])) : τ a q.length = nI p := by
  have := h q.length (by simp)
  rw [getD_snoc_eq] at this
  exact this
theorem p_stackParts_5_l {N t : Nat} (ht : t ≤ 936) {ps q : List Nat} (h4 : ps.length ≤ 4) (hq : q.length + ps.length ≤ 150) (kx : (Nat → Nat → Int32) → Int32 → Option (Int32 × (Nat → Nat → Int32))) : ∀ (j n : Nat) (τ : Nat → Nat → Int32), j ≤ ps.length → j < n → (∀ k, k < ps.length → τ 4 (4 * t + k) = nI (ps.getD k 0)) → StK τ 5 (q ++ (ps.drop j).reverse) →
    ∃ τ', (∀ c, c ≠ 5 → τ' c = τ c) ∧ StK τ' 5 (q ++ ps.reverse) ∧ l_Tt_stackParts_5_13 N (nI t) kx n τ (nI (q.length + (ps.length - j))) (dn j) = kx τ' (nI (q.length + ps.length)) := by
  intro j
  induction j with
  | zero =>
    intro n τ hj hn hp hs
    obtain ⟨m, rfl⟩ : ∃ m, n = m + 1 := ⟨n - 1, by omega⟩
    refine ⟨τ, fun _ _ => rfl, by simpa using hs, ?_⟩
    unfold l_Tt_stackParts_5_13 f_Tt_stackParts_5_13
    rw [if_pos (of_eq_true dn_neg), Nat.sub_zero]
  | succ j ih =>
    intro n τ hj hn hp hs
    obtain ⟨m, rfl⟩ : ∃ m, n = m + 1 := ⟨n - 1, by omega⟩
    have el : (q ++ (ps.drop (j + 1)).reverse).length = q.length + (ps.length - (j + 1)) := by simp
    have hpush := hs.push (ps.getD j 0)
    have e2 : q ++ (ps.drop (j + 1)).reverse ++ [ps.getD j 0] = q ++ (ps.drop j).reverse := by
      rw [List.append_assoc]
      congr 1
      have : ps.drop j = ps.getD j 0 :: ps.drop (j + 1) := by
        rw [List.getD_eq_getElem?_getD, List.getElem?_eq_getElem (by omega)]
        exact List.drop_eq_getElem_cons (by omega)
      rw [this, List.reverse_cons]
    rw [e2, el] at hpush
    obtain ⟨τ', f1, f2, f3⟩ := ih m (st2 τ 5 (q.length + (ps.length - (j + 1))) (nI (ps.getD j 0))) (by omega) (by omega) (fun k hk => by rw [st2_aj _ _ _ _ (by decide)]; exact hp k hk) hpush
    refine ⟨τ', fun c hc => by rw [f1 c hc, st2_a _ _ _ hc], f2, ?_⟩
    unfold l_Tt_stackParts_5_13 f_Tt_stackParts_5_13
    have e3 : q.length + (ps.length - (j + 1)) + 1 = q.length + (ps.length - j) := by omega
    have e4 : t * 4 + j = 4 * t + j := by omega
    simp (disch := omega) only [nm_x, b1_some, b2_some, b3_some, b4_some, ck_n, nI_clamp, nI_add, nI_1, n_1add, pk_mul, n_sub, n_sub1, n_addm1, l_2, l_3, l_4, l_5, l_6, l_7, l_8, l_9, l_10, l_11, l_12, l_13, l_20, l_30, l_31, l_36, l_120, l_150, l_200, l_240, l_248, l_400, l_468, l_601, l_936, l_937, l_1000, l_1872, l_2600, l_3744, l_3748, l_374400, l_1000001, l_1000002, c_lt_t, c_lt_f, c_le_t, c_le_f, c_eq_t, c_eq_f, c_n0, c_0le, c_0lt, c_0lt_f, c_le0, c_le0_t, c_m1, c_m1l, c_ne0, c_eq0, c_eq1, c_ne1, c_lt1, c_1lt, c_1lt_f, m1_neg, if_true, if_false, dn_s, e4, hp j (by omega)]
    rw [dn_m, e3]
    exact f3
theorem p_stackParts_5 {N t : Nat} (hN : 5 ≤ N) (ht : t ≤ 936) {ps q : List Nat} {τ : Nat → Nat → Int32} (h4 : ps.length ≤ 4) (hq : q.length + ps.length ≤ 150) (h3 : τ 3 t = nI ps.length) (hp : ∀ k, k < ps.length → τ 4 (4 * t + k) = nI (ps.getD k 0)) (hs : StK τ 5 q) :
    ∃ τ', (∀ c, c ≠ 5 → τ' c = τ c) ∧ StK τ' 5 (q ++ ps.reverse) ∧ m_Tt_stackParts_5 N τ (nI t) (nI q.length) = some (nI (q.length + ps.length), τ') := by
  obtain ⟨τ', f1, f2, f3⟩ := p_stackParts_5_l (N := N) ht h4 hq (fun s_self v4 => f_Tt_stackParts_5_49 N s_self v4) ps.length N τ (Nat.le_refl _) (by omega) hp (by simpa using hs)
  refine ⟨τ', f1, f2, ?_⟩
  unfold m_Tt_stackParts_5 f_Tt_stackParts_5_0
  simp (disch := omega) only [nm_x, b1_some, b2_some, b3_some, b4_some, ck_n, nI_clamp, nI_add, nI_1, n_1add, pk_mul, n_sub, n_sub1, n_addm1, l_2, l_3, l_4, l_5, l_6, l_7, l_8, l_9, l_10, l_11, l_12, l_13, l_20, l_30, l_31, l_36, l_120, l_150, l_200, l_240, l_248, l_400, l_468, l_601, l_936, l_937, l_1000, l_1872, l_2600, l_3744, l_3748, l_374400, l_1000001, l_1000002, c_lt_t, c_lt_f, c_le_t, c_le_f, c_eq_t, c_eq_f, c_n0, c_0le, c_0lt, c_0lt_f, c_le0, c_le0_t, c_m1, c_m1l, c_ne0, c_eq0, c_eq1, c_ne1, c_lt1, c_1lt, c_1lt_f, m1_neg, if_true, if_false, h3]
  rw [Nat.sub_self, Nat.add_zero] at f3
  exact f3
theorem p_stackParts_6_l {N t : Nat} (ht : t ≤ 936) {ps q : List Nat} (h4 : ps.length ≤ 4) (hq : q.length + ps.length ≤ 150) (kx : (Nat → Nat → Int32) → Int32 → Option (Int32 × (Nat → Nat → Int32))) : ∀ (j n : Nat) (τ : Nat → Nat → Int32), j ≤ ps.length → j < n → (∀ k, k < ps.length → τ 4 (4 * t + k) = nI (ps.getD k 0)) → StK τ 6 (q ++ (ps.drop j).reverse) →
    ∃ τ', (∀ c, c ≠ 6 → τ' c = τ c) ∧ StK τ' 6 (q ++ ps.reverse) ∧ l_Tt_stackParts_6_13 N (nI t) kx n τ (nI (q.length + (ps.length - j))) (dn j) = kx τ' (nI (q.length + ps.length)) := by
  intro j
  induction j with
  | zero =>
    intro n τ hj hn hp hs
    obtain ⟨m, rfl⟩ : ∃ m, n = m + 1 := ⟨n - 1, by omega⟩
    refine ⟨τ, fun _ _ => rfl, by simpa using hs, ?_⟩
    unfold l_Tt_stackParts_6_13 f_Tt_stackParts_6_13
    rw [if_pos (of_eq_true dn_neg), Nat.sub_zero]
  | succ j ih =>
    intro n τ hj hn hp hs
    obtain ⟨m, rfl⟩ : ∃ m, n = m + 1 := ⟨n - 1, by omega⟩
    have el : (q ++ (ps.drop (j + 1)).reverse).length = q.length + (ps.length - (j + 1)) := by simp
    have hpush := hs.push (ps.getD j 0)
    have e2 : q ++ (ps.drop (j + 1)).reverse ++ [ps.getD j 0] = q ++ (ps.drop j).reverse := by
      rw [List.append_assoc]
      congr 1
      have : ps.drop j = ps.getD j 0 :: ps.drop (j + 1) := by
        rw [List.getD_eq_getElem?_getD, List.getElem?_eq_getElem (by omega)]
        exact List.drop_eq_getElem_cons (by omega)
      rw [this, List.reverse_cons]
    rw [e2, el] at hpush
    obtain ⟨τ', f1, f2, f3⟩ := ih m (st2 τ 6 (q.length + (ps.length - (j + 1))) (nI (ps.getD j 0))) (by omega) (by omega) (fun k hk => by rw [st2_aj _ _ _ _ (by decide)]; exact hp k hk) hpush
    refine ⟨τ', fun c hc => by rw [f1 c hc, st2_a _ _ _ hc], f2, ?_⟩
    unfold l_Tt_stackParts_6_13 f_Tt_stackParts_6_13
    have e3 : q.length + (ps.length - (j + 1)) + 1 = q.length + (ps.length - j) := by omega
    have e4 : t * 4 + j = 4 * t + j := by omega
    simp (disch := omega) only [nm_x, b1_some, b2_some, b3_some, b4_some, ck_n, nI_clamp, nI_add, nI_1, n_1add, pk_mul, n_sub, n_sub1, n_addm1, l_2, l_3, l_4, l_5, l_6, l_7, l_8, l_9, l_10, l_11, l_12, l_13, l_20, l_30, l_31, l_36, l_120, l_150, l_200, l_240, l_248, l_400, l_468, l_601, l_936, l_937, l_1000, l_1872, l_2600, l_3744, l_3748, l_374400, l_1000001, l_1000002, c_lt_t, c_lt_f, c_le_t, c_le_f, c_eq_t, c_eq_f, c_n0, c_0le, c_0lt, c_0lt_f, c_le0, c_le0_t, c_m1, c_m1l, c_ne0, c_eq0, c_eq1, c_ne1, c_lt1, c_1lt, c_1lt_f, m1_neg, if_true, if_false, dn_s, e4, hp j (by omega)]
    rw [dn_m, e3]
    exact f3
theorem p_stackParts_6 {N t : Nat} (hN : 5 ≤ N) (ht : t ≤ 936) {ps q : List Nat} {τ : Nat → Nat → Int32} (h4 : ps.length ≤ 4) (hq : q.length + ps.length ≤ 150) (h3 : τ 3 t = nI ps.length) (hp : ∀ k, k < ps.length → τ 4 (4 * t + k) = nI (ps.getD k 0)) (hs : StK τ 6 q) :
    ∃ τ', (∀ c, c ≠ 6 → τ' c = τ c) ∧ StK τ' 6 (q ++ ps.reverse) ∧ m_Tt_stackParts_6 N τ (nI t) (nI q.length) = some (nI (q.length + ps.length), τ') := by
  obtain ⟨τ', f1, f2, f3⟩ := p_stackParts_6_l (N := N) ht h4 hq (fun s_self v4 => f_Tt_stackParts_6_49 N s_self v4) ps.length N τ (Nat.le_refl _) (by omega) hp (by simpa using hs)
  refine ⟨τ', f1, f2, ?_⟩
  unfold m_Tt_stackParts_6 f_Tt_stackParts_6_0
  simp (disch := omega) only [nm_x, b1_some, b2_some, b3_some, b4_some, ck_n, nI_clamp, nI_add, nI_1, n_1add, pk_mul, n_sub, n_sub1, n_addm1, l_2, l_3, l_4, l_5, l_6, l_7, l_8, l_9, l_10, l_11, l_12, l_13, l_20, l_30, l_31, l_36, l_120, l_150, l_200, l_240, l_248, l_400, l_468, l_601, l_936, l_937, l_1000, l_1872, l_2600, l_3744, l_3748, l_374400, l_1000001, l_1000002, c_lt_t, c_lt_f, c_le_t, c_le_f, c_eq_t, c_eq_f, c_n0, c_0le, c_0lt, c_0lt_f, c_le0, c_le0_t, c_m1, c_m1l, c_ne0, c_eq0, c_eq1, c_ne1, c_lt1, c_1lt, c_1lt_f, m1_neg, if_true, if_false, h3]
  rw [Nat.sub_self, Nat.add_zero] at f3
  exact f3
/-- the codes on a stack, the top first -/
def rem (C : Nat → List Int32) (q : List Nat) : List Int32 := (q.reverse.map C).flatten
theorem rem_snoc (C : Nat → List Int32) (q : List Nat) (t : Nat) : rem C (q ++ [t]) = C t ++ rem C q := by
  unfold rem
  simp
theorem rem_push (C : Nat → List Int32) (q ps : List Nat) : rem C (q ++ ps.reverse) = (ps.map C).flatten ++ rem C q := by
  unfold rem
  simp
theorem Tk.ne {τ : Nat → Nat → Int32} {C : Nat → List Int32} {ar : Int32 → Nat} {Q : Nat → Prop} {t : Nat} (h : Tk τ C ar Q t) : 1 ≤ (C t).length := by
  obtain ⟨ps, _, _, _, _, h5, _⟩ := h
  rw [h5]
  simp
theorem flat_len {C : Nat → List Int32} : ∀ (ps : List Nat), (∀ p, p ∈ ps → 1 ≤ (C p).length) → ps.length ≤ (ps.map C).flatten.length
  | [], _ => by simp
  | p :: ps, h => by
    have h1 := h p List.mem_cons_self
    have h2 := flat_len ps (fun z hz => h z (List.mem_cons_of_mem _ hz))
    simp only [List.map_cons, List.flatten_cons, List.length_append, List.length_cons]
    omega
theorem rem_len {C : Nat → List Int32} {q : List Nat} (h : ∀ p, p ∈ q → 1 ≤ (C p).length) : q.length ≤ (rem C q).length := by
  have := flat_len (C := C) q.reverse (fun p hp => h p (List.mem_reverse.mp hp))
  simpa [rem] using this
theorem getD_mem {α : Type} {ps : List α} {d : α} {k : Nat} (h : k < ps.length) : ps.getD k d ∈ ps := by
  rw [List.getD_eq_getElem?_getD, List.getElem?_eq_getElem h]
  exact List.getElem_mem h
theorem mem_getD {α : Type} {ps : List α} {d p : α} (h : p ∈ ps) : ∃ k, k < ps.length ∧ ps.getD k d = p := by
  obtain ⟨k, hk, e⟩ := List.mem_iff_getElem.mp h
  exact ⟨k, hk, by rw [List.getD_eq_getElem?_getD, List.getElem?_eq_getElem hk]; exact e⟩
