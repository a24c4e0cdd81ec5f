/-! the class's grammar and the grammar G -/
def RuleAt (γ : Nat → Nat → Int32) (G : Gm) (r : Nat) (l : List Int32) : Prop :=
  γ 3 r = nI l.length ∧ (∀ k, k < l.length → γ 4 (8 * r + k) = l.getD k 0 ∧ γ 5 (8 * r + k) = if l.getD k 0 < 0 then nI ((dv l).idxOf (l.getD k 0)) else -1) ∧ γ 6 r = nI (dv l).length ∧ ∀ j, j < (dv l).length → γ 7 (4 * r + j) = nI (sX G ((dv l).getD j 0))
def GrOK (γ : Nat → Nat → Int32) (G : Gm) : Prop :=
  GOK G ∧ γ 0 0 = nI (gS G) ∧ γ 0 1 = nI (gV G) ∧ γ 0 2 = nI (gR G) ∧ (∀ v, v < gV G → γ 1 v = nI (gvs G v)) ∧ ∀ r, r < gR G → γ 2 r = nI (grs G r) ∧ RuleAt γ G r (gry G r)
theorem dv_le4 {G : Gm} (h : GOK G) {r : Nat} (hr : r < gR G) : (dv (gry G r)).length ≤ 4 := by
  have h1 := dvs_len (gry G r) []
  have h2 := (h.2.2.2.2 r hr).2.2.2.2
  unfold dv
  simp only [List.length_nil] at h1
  omega
theorem dv_lt {l : List Int32} {k : Nat} (hk : k < l.length) (hn : l.getD k 0 < 0) : (dv l).idxOf (l.getD k 0) < (dv l).length :=
  List.idxOf_lt_length_of_mem (dv_mem.mpr ⟨getD_mem hk, hn⟩)
theorem idx_getD {l : List Int32} {x : Int32} (h : x ∈ l) : l.getD (l.idxOf x) 0 = x := by
  have := List.idxOf_lt_length_of_mem h
  rw [List.getD_eq_getElem?_getD, List.getElem?_eq_getElem this]
  exact List.getElem_idxOf this
theorem lt30 {n : Nat} (h : n < 30) : n < 2 ^ 31 := by omega
theorem neg_nI {v n : Nat} (hv : v < n) (hn : n ≤ 20) : ¬ vS v < -nI n := by
  intro h
  have h1 := Int32.lt_iff_toInt_lt.mp h
  rw [sb_negT (by omega), vS_t (by omega)] at h1
  omega
theorem vS_lt_nI {v n : Nat} (hv : v < 2 ^ 30) (hn : n < 2 ^ 31) : vS v < nI n := by
  rw [Int32.lt_iff_toInt_lt, vS_t hv, nI_toInt hn]
  omega
theorem nI_nlt_neg {r n : Nat} (hr : r < 2 ^ 31) (hn : n < 2 ^ 31) : ¬ nI r < -nI n := by
  intro h
  have h1 := Int32.lt_iff_toInt_lt.mp h
  rw [sb_negT hn, nI_toInt hr] at h1
  omega
theorem g_hasRule {γ : Nat → Nat → Int32} {G : Gm} (h : GrOK γ G) {r : Nat} (hr : r < gR G) : m_Gr_hasRule γ (nI r) = some 1 := by
  have := h.1.2.2.1
  unfold m_Gr_hasRule f_Gr_hasRule_0
  rw [h.2.2.2.1]
  simp (disch := omega) only [nm_x, b1_some, b2_some, b3_some, b4_some, ck_n, nI_clamp, nI_add, nI_1, n_1add, pk_mul, n_sub, n_sub1, n_addm1, l_2, l_3, l_4, l_5, l_6, l_7, l_8, l_9, l_10, l_11, l_12, l_13, l_20, l_30, l_31, l_36, l_120, l_150, l_200, l_240, l_248, l_400, l_468, l_601, l_936, l_937, l_1000, l_1872, l_2600, l_3744, l_3748, l_374400, l_1000001, l_1000002, c_lt_t, c_lt_f, c_le_t, c_le_f, c_eq_t, c_eq_f, c_n0, c_0le, c_0lt, c_0lt_f, c_le0, c_le0_t, c_m1, c_m1l, c_ne0, c_eq0, c_eq1, c_ne1, c_lt1, c_1lt, c_1lt_f, m1_neg, if_true, if_false]
theorem g_hasRule_neg {γ : Nat → Nat → Int32} {x : Int32} (hx : x < 0) : m_Gr_hasRule γ x = some 0 := by
  unfold m_Gr_hasRule f_Gr_hasRule_0
  rw [if_pos hx]
theorem g_sort_r {γ : Nat → Nat → Int32} {G : Gm} (h : GrOK γ G) {r : Nat} (hr : r < gR G) : m_Gr_sortOfCode γ (nI r) = some (nI (grs G r)) := by
  have h1 := h.1.2.2.1
  have h2 := h.1.2.1
  unfold m_Gr_sortOfCode f_Gr_sortOfCode_0 m_Gr_hasCode f_Gr_hasCode_0
  rw [h.2.2.1, h.2.2.2.1, if_neg (nI_nlt_neg (by omega) (by omega))]
  simp (disch := omega) only [nm_x, b1_some, b2_some, b3_some, b4_some, ck_n, nI_clamp, nI_add, nI_1, n_1add, pk_mul, n_sub, n_sub1, n_addm1, l_2, l_3, l_4, l_5, l_6, l_7, l_8, l_9, l_10, l_11, l_12, l_13, l_20, l_30, l_31, l_36, l_120, l_150, l_200, l_240, l_248, l_400, l_468, l_601, l_936, l_937, l_1000, l_1872, l_2600, l_3744, l_3748, l_374400, l_1000001, l_1000002, c_lt_t, c_lt_f, c_le_t, c_le_f, c_eq_t, c_eq_f, c_n0, c_0le, c_0lt, c_0lt_f, c_le0, c_le0_t, c_m1, c_m1l, c_ne0, c_eq0, c_eq1, c_ne1, c_lt1, c_1lt, c_1lt_f, m1_neg, if_true, if_false, (h.2.2.2.2.2 r hr).1]
  rfl
theorem g_sort_v {γ : Nat → Nat → Int32} {G : Gm} (h : GrOK γ G) {v : Nat} (hv : v < gV G) : m_Gr_sortOfCode γ (vS v) = some (nI (gvs G v)) := by
  have h1 := h.1.2.2.1
  have h2 := h.1.2.1
  unfold m_Gr_sortOfCode f_Gr_sortOfCode_0 m_Gr_hasCode f_Gr_hasCode_0
  rw [h.2.2.1, h.2.2.2.1, if_neg (neg_nI hv h2), if_neg (Int32.not_le.mpr (vS_lt_nI (by omega) (by omega))), b1_some, if_neg (by decide), if_neg (Int32.not_le.mpr (vS_neg (by omega))), vS_back (by omega)]
  simp (disch := omega) only [nm_x, b1_some, b2_some, b3_some, b4_some, ck_n, nI_clamp, nI_add, nI_1, n_1add, pk_mul, n_sub, n_sub1, n_addm1, l_2, l_3, l_4, l_5, l_6, l_7, l_8, l_9, l_10, l_11, l_12, l_13, l_20, l_30, l_31, l_36, l_120, l_150, l_200, l_240, l_248, l_400, l_468, l_601, l_936, l_937, l_1000, l_1872, l_2600, l_3744, l_3748, l_374400, l_1000001, l_1000002, c_lt_t, c_lt_f, c_le_t, c_le_f, c_eq_t, c_eq_f, c_n0, c_0le, c_0lt, c_0lt_f, c_le0, c_le0_t, c_m1, c_m1l, c_ne0, c_eq0, c_eq1, c_ne1, c_lt1, c_1lt, c_1lt_f, m1_neg, if_true, if_false, h.2.2.2.2.1 v hv]
theorem g_slots {γ : Nat → Nat → Int32} {G : Gm} (h : GrOK γ G) {r : Nat} (hr : r < gR G) : m_Gr_slotsOfCode γ (nI r) = some (nI (dv (gry G r)).length) := by
  have h1 := h.1.2.2.1
  unfold m_Gr_slotsOfCode f_Gr_slotsOfCode_0
  rw [g_hasRule h hr, b1_some, if_neg (by decide)]
  simp (disch := omega) only [nm_x, b1_some, b2_some, b3_some, b4_some, ck_n, nI_clamp, nI_add, nI_1, n_1add, pk_mul, n_sub, n_sub1, n_addm1, l_2, l_3, l_4, l_5, l_6, l_7, l_8, l_9, l_10, l_11, l_12, l_13, l_20, l_30, l_31, l_36, l_120, l_150, l_200, l_240, l_248, l_400, l_468, l_601, l_936, l_937, l_1000, l_1872, l_2600, l_3744, l_3748, l_374400, l_1000001, l_1000002, c_lt_t, c_lt_f, c_le_t, c_le_f, c_eq_t, c_eq_f, c_n0, c_0le, c_0lt, c_0lt_f, c_le0, c_le0_t, c_m1, c_m1l, c_ne0, c_eq0, c_eq1, c_ne1, c_lt1, c_1lt, c_1lt_f, m1_neg, if_true, if_false, (h.2.2.2.2.2 r hr).2.2.2.1]
theorem g_slots_neg {γ : Nat → Nat → Int32} {x : Int32} (hx : x < 0) : m_Gr_slotsOfCode γ x = some 0 := by
  unfold m_Gr_slotsOfCode f_Gr_slotsOfCode_0
  rw [g_hasRule_neg hx, b1_some, if_pos rfl]
theorem g_len {γ : Nat → Nat → Int32} {G : Gm} (h : GrOK γ G) {r : Nat} (hr : r < gR G) : m_Gr_lengthOfRule γ (nI r) = some (nI (gry G r).length) := by
  have h1 := h.1.2.2.1
  unfold m_Gr_lengthOfRule f_Gr_lengthOfRule_0
  rw [g_hasRule h hr, b1_some, if_neg (by decide)]
  simp (disch := omega) only [nm_x, b1_some, b2_some, b3_some, b4_some, ck_n, nI_clamp, nI_add, nI_1, n_1add, pk_mul, n_sub, n_sub1, n_addm1, l_2, l_3, l_4, l_5, l_6, l_7, l_8, l_9, l_10, l_11, l_12, l_13, l_20, l_30, l_31, l_36, l_120, l_150, l_200, l_240, l_248, l_400, l_468, l_601, l_936, l_937, l_1000, l_1872, l_2600, l_3744, l_3748, l_374400, l_1000001, l_1000002, c_lt_t, c_lt_f, c_le_t, c_le_f, c_eq_t, c_eq_f, c_n0, c_0le, c_0lt, c_0lt_f, c_le0, c_le0_t, c_m1, c_m1l, c_ne0, c_eq0, c_eq1, c_ne1, c_lt1, c_1lt, c_1lt_f, m1_neg, if_true, if_false, (h.2.2.2.2.2 r hr).2.1]
theorem g_sym {γ : Nat → Nat → Int32} {G : Gm} (h : GrOK γ G) {r k : Nat} (hr : r < gR G) (hk : k < (gry G r).length) : m_Gr_symbolAt γ (nI r) (nI k) = some ((gry G r).getD k 0) := by
  have h1 := h.1.2.2.1
  have h8 := (h.1.2.2.2.2 r hr).2.2.1
  unfold m_Gr_symbolAt f_Gr_symbolAt_0
  rw [g_hasRule h hr, b1_some, if_neg (by decide)]
  have e : r * 8 + k = 8 * r + k := by omega
  simp (disch := omega) only [nm_x, b1_some, b2_some, b3_some, b4_some, ck_n, nI_clamp, nI_add, nI_1, n_1add, pk_mul, n_sub, n_sub1, n_addm1, l_2, l_3, l_4, l_5, l_6, l_7, l_8, l_9, l_10, l_11, l_12, l_13, l_20, l_30, l_31, l_36, l_120, l_150, l_200, l_240, l_248, l_400, l_468, l_601, l_936, l_937, l_1000, l_1872, l_2600, l_3744, l_3748, l_374400, l_1000001, l_1000002, c_lt_t, c_lt_f, c_le_t, c_le_f, c_eq_t, c_eq_f, c_n0, c_0le, c_0lt, c_0lt_f, c_le0, c_le0_t, c_m1, c_m1l, c_ne0, c_eq0, c_eq1, c_ne1, c_lt1, c_1lt, c_1lt_f, m1_neg, if_true, if_false, (h.2.2.2.2.2 r hr).2.1, e, ((h.2.2.2.2.2 r hr).2.2.1 k hk).1]
theorem g_slotAt {γ : Nat → Nat → Int32} {G : Gm} (h : GrOK γ G) {r k : Nat} (hr : r < gR G) (hk : k < (gry G r).length) : m_Gr_slotAt γ (nI r) (nI k) = some (if (gry G r).getD k 0 < 0 then nI ((dv (gry G r)).idxOf ((gry G r).getD k 0)) else -1) := by
  have h1 := h.1.2.2.1
  have h8 := (h.1.2.2.2.2 r hr).2.2.1
  unfold m_Gr_slotAt f_Gr_slotAt_0
  rw [g_hasRule h hr, b1_some, if_neg (by decide)]
  have e : r * 8 + k = 8 * r + k := by omega
  simp (disch := omega) only [nm_x, b1_some, b2_some, b3_some, b4_some, ck_n, nI_clamp, nI_add, nI_1, n_1add, pk_mul, n_sub, n_sub1, n_addm1, l_2, l_3, l_4, l_5, l_6, l_7, l_8, l_9, l_10, l_11, l_12, l_13, l_20, l_30, l_31, l_36, l_120, l_150, l_200, l_240, l_248, l_400, l_468, l_601, l_936, l_937, l_1000, l_1872, l_2600, l_3744, l_3748, l_374400, l_1000001, l_1000002, c_lt_t, c_lt_f, c_le_t, c_le_f, c_eq_t, c_eq_f, c_n0, c_0le, c_0lt, c_0lt_f, c_le0, c_le0_t, c_m1, c_m1l, c_ne0, c_eq0, c_eq1, c_ne1, c_lt1, c_1lt, c_1lt_f, m1_neg, if_true, if_false, (h.2.2.2.2.2 r hr).2.1, e, ((h.2.2.2.2.2 r hr).2.2.1 k hk).2]
theorem g_slotSort {γ : Nat → Nat → Int32} {G : Gm} (h : GrOK γ G) {r j : Nat} (hr : r < gR G) (hj : j < (dv (gry G r)).length) : m_Gr_sortOfSlot γ (nI r) (nI j) = some (nI (sX G ((dv (gry G r)).getD j 0))) := by
  have h1 := h.1.2.2.1
  have h4 := dv_le4 h.1 hr
  unfold m_Gr_sortOfSlot f_Gr_sortOfSlot_0
  rw [g_hasRule h hr, b1_some, if_neg (by decide)]
  have e : r * 4 + j = 4 * r + j := by omega
  simp (disch := omega) only [nm_x, b1_some, b2_some, b3_some, b4_some, ck_n, nI_clamp, nI_add, nI_1, n_1add, pk_mul, n_sub, n_sub1, n_addm1, l_2, l_3, l_4, l_5, l_6, l_7, l_8, l_9, l_10, l_11, l_12, l_13, l_20, l_30, l_31, l_36, l_120, l_150, l_200, l_240, l_248, l_400, l_468, l_601, l_936, l_937, l_1000, l_1872, l_2600, l_3744, l_3748, l_374400, l_1000001, l_1000002, c_lt_t, c_lt_f, c_le_t, c_le_f, c_eq_t, c_eq_f, c_n0, c_0le, c_0lt, c_0lt_f, c_le0, c_le0_t, c_m1, c_m1l, c_ne0, c_eq0, c_eq1, c_ne1, c_lt1, c_1lt, c_1lt_f, m1_neg, if_true, if_false, (h.2.2.2.2.2 r hr).2.2.2.1, e, (h.2.2.2.2.2 r hr).2.2.2.2 j hj]
theorem isU_iff {G : Gm} (r : Nat) : isU G r ↔ (gry G r).length = 1 ∧ (dv (gry G r)).length = 1 := by
  constructor
  · rintro ⟨x, hx, e⟩
    rw [e, dv_one hx]
    simp
  · rintro ⟨h1, h2⟩
    match hl : gry G r, h1 with
    | [x], _ =>
      refine ⟨x, ?_, hl⟩
      apply Classical.byContradiction
      intro hn
      rw [hl] at h2
      simp [dv, dvs, hn] at h2
theorem g_isUnit {γ : Nat → Nat → Int32} {G : Gm} (h : GrOK γ G) {r : Nat} (hr : r < gR G) : (isU G r ∧ m_Gr_isUnit γ (nI r) = some 1) ∨ (¬ isU G r ∧ m_Gr_isUnit γ (nI r) = some 0) := by
  have h1 := h.1.2.2.1
  have h4 := dv_le4 h.1 hr
  have h8 := (h.1.2.2.2.2 r hr).2.2.1
  unfold m_Gr_isUnit f_Gr_isUnit_0
  rw [g_len h hr, b1_some, g_slots h hr]
  by_cases c1 : (gry G r).length = 1
  · by_cases c2 : (dv (gry G r)).length = 1
    · left
      refine ⟨(isU_iff r).mpr ⟨c1, c2⟩, ?_⟩
      simp (disch := omega) only [nm_x, b1_some, b2_some, b3_some, b4_some, ck_n, nI_clamp, nI_add, nI_1, n_1add, pk_mul, n_sub, n_sub1, n_addm1, l_2, l_3, l_4, l_5, l_6, l_7, l_8, l_9, l_10, l_11, l_12, l_13, l_20, l_30, l_31, l_36, l_120, l_150, l_200, l_240, l_248, l_400, l_468, l_601, l_936, l_937, l_1000, l_1872, l_2600, l_3744, l_3748, l_374400, l_1000001, l_1000002, c_lt_t, c_lt_f, c_le_t, c_le_f, c_eq_t, c_eq_f, c_n0, c_0le, c_0lt, c_0lt_f, c_le0, c_le0_t, c_m1, c_m1l, c_ne0, c_eq0, c_eq1, c_ne1, c_lt1, c_1lt, c_1lt_f, m1_neg, if_true, if_false]
    · right
      refine ⟨fun hu => c2 ((isU_iff r).mp hu).2, ?_⟩
      simp (disch := omega) only [nm_x, b1_some, b2_some, b3_some, b4_some, ck_n, nI_clamp, nI_add, nI_1, n_1add, pk_mul, n_sub, n_sub1, n_addm1, l_2, l_3, l_4, l_5, l_6, l_7, l_8, l_9, l_10, l_11, l_12, l_13, l_20, l_30, l_31, l_36, l_120, l_150, l_200, l_240, l_248, l_400, l_468, l_601, l_936, l_937, l_1000, l_1872, l_2600, l_3744, l_3748, l_374400, l_1000001, l_1000002, c_lt_t, c_lt_f, c_le_t, c_le_f, c_eq_t, c_eq_f, c_n0, c_0le, c_0lt, c_0lt_f, c_le0, c_le0_t, c_m1, c_m1l, c_ne0, c_eq0, c_eq1, c_ne1, c_lt1, c_1lt, c_1lt_f, m1_neg, if_true, if_false]
  · right
    refine ⟨fun hu => c1 ((isU_iff r).mp hu).1, ?_⟩
    simp (disch := omega) only [nm_x, b1_some, b2_some, b3_some, b4_some, ck_n, nI_clamp, nI_add, nI_1, n_1add, pk_mul, n_sub, n_sub1, n_addm1, l_2, l_3, l_4, l_5, l_6, l_7, l_8, l_9, l_10, l_11, l_12, l_13, l_20, l_30, l_31, l_36, l_120, l_150, l_200, l_240, l_248, l_400, l_468, l_601, l_936, l_937, l_1000, l_1872, l_2600, l_3744, l_3748, l_374400, l_1000001, l_1000002, c_lt_t, c_lt_f, c_le_t, c_le_f, c_eq_t, c_eq_f, c_n0, c_0le, c_0lt, c_0lt_f, c_le0, c_le0_t, c_m1, c_m1l, c_ne0, c_eq0, c_eq1, c_ne1, c_lt1, c_1lt, c_1lt_f, m1_neg, if_true, if_false]
theorem uS_slot {G : Gm} {r : Nat} (h : isU G r) : sX G ((dv (gry G r)).getD 0 0) = uS G r := by
  obtain ⟨x, hx, e⟩ := h
  unfold uS
  rw [e, dv_one hx]
  rfl
