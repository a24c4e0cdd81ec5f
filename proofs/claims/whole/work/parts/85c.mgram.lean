/-! the model's rules -/
def vl (l : List Int32) : List Int32 := l.filter (fun x => decide (x < 0))
def MdR (μ : Nat → Nat → Int32) (r : Nat) (l : List Int32) : Prop := r < 31 ∧ μ 3 r = nI l.length ∧ l.length ≤ 8 ∧ ∀ k, k < l.length → μ 4 (8 * r + k) = l.getD k 0
theorem dvs_vl : ∀ (l acc : List Int32), dvs acc l = dvs acc (vl l)
  | [], _ => rfl
  | x :: xs, acc => by
    by_cases c : x < 0
    · have e : vl (x :: xs) = x :: vl xs := List.filter_cons_of_pos (by simpa using c)
      rw [e]
      show (if x < 0 ∧ x ∉ acc then dvs (acc ++ [x]) xs else dvs acc xs) = (if x < 0 ∧ x ∉ acc then dvs (acc ++ [x]) (vl xs) else dvs acc (vl xs))
      rw [dvs_vl xs, dvs_vl xs]
    · have e : vl (x :: xs) = vl xs := List.filter_cons_of_neg (by simpa using c)
      rw [e]
      show (if x < 0 ∧ x ∉ acc then dvs (acc ++ [x]) xs else dvs acc xs) = _
      rw [if_neg (fun h => c h.1), dvs_vl xs]
theorem dv_vl (l : List Int32) : dv l = dv (vl l) := dvs_vl l []
theorem vl_neg {l : List Int32} {x : Int32} (h : x ∈ vl l) : x < 0 := by
  have := (List.mem_filter.mp h).2
  simpa using this
theorem vl_take_len {l : List Int32} {k : Nat} (h : k < l.length) : (vl (l.take (k + 1))).length = (vl (l.take k)).length + if l.getD k 0 < 0 then 1 else 0 := by
  rw [take_snoc h]
  unfold vl
  rw [List.filter_append, List.length_append]
  by_cases c : l.getD k 0 < 0
  · rw [if_pos c, List.filter_cons_of_pos (by simpa using c)]
    rfl
  · rw [if_neg c, List.filter_cons_of_neg (by simpa using c)]
    rfl
theorem vl_take_getD {l : List Int32} {k : Nat} (h : k < l.length) (c : l.getD k 0 < 0) : (vl l).getD (vl (l.take k)).length 0 = l.getD k 0 := by
  have e : vl l = vl (l.take k) ++ (l.getD k 0 :: vl (l.drop (k + 1))) := by
    have h1 : l = l.take k ++ (l.getD k 0 :: l.drop (k + 1)) := by rw [← drop_getD h, List.take_append_drop]
    have h2 : vl (l.take k ++ (l.getD k 0 :: l.drop (k + 1))) = vl (l.take k) ++ (l.getD k 0 :: vl (l.drop (k + 1))) := by
      unfold vl
      rw [List.filter_append, List.filter_cons_of_pos (by simpa using c)]
    rw [← h2, ← h1]
  rw [e]
  simp [List.getD_eq_getElem?_getD]
theorem vl_take_le (l : List Int32) (k : Nat) : (vl (l.take k)).length ≤ (vl l).length := by
  have h1 : vl l = vl (l.take k) ++ vl (l.drop k) := by
    unfold vl
    rw [← List.filter_append, List.take_append_drop]
  rw [h1, List.length_append]
  omega
theorem cntV_vl {f : Nat → Int32} {b : Nat} {l : List Int32} (h : ∀ k, k < l.length → f (b + k) = l.getD k 0) : ∀ m, m ≤ l.length → cntV f b m = (vl (l.take m)).length
  | 0, _ => by simp [cntV, vl]
  | m + 1, hm => by
    show cntV f b m + (if 0 ≤ f (b + m) then 0 else 1) = _
    rw [cntV_vl h m (by omega), vl_take_len (by omega), h m (by omega)]
    by_cases c : l.getD m 0 < 0
    · rw [if_neg (Int32.not_le.mpr c), if_pos c]
    · rw [if_pos (Int32.not_lt.mp c), if_neg c]
theorem q_vars {N : Nat} (hN : 9 ≤ N) {μ : Nat → Nat → Int32} {r : Nat} {l : List Int32} (h : MdR μ r l) : m_Md_variablesIn N μ (nI r) = some (nI (vl l).length) := by
  rw [p_variablesIn hN h.1 h.2.2.1 h.2.1, cntV_vl h.2.2.2 l.length (Nat.le_refl _), List.take_length]
theorem vl_le8 {μ : Nat → Nat → Int32} {r : Nat} {l : List Int32} (h : MdR μ r l) : (vl l).length ≤ 8 := by
  have h1 := List.length_filter_le (fun x => decide (x < 0)) l
  have h2 := h.2.2.1
  unfold vl
  omega
theorem q_varAt_8 {N : Nat} {μ : Nat → Nat → Int32} {r k : Nat} {l : List Int32} (h : MdR μ r l) (hk : k < 2 ^ 20) (kx : Int32 → Option Int32) : ∀ (d i n : Nat), i + d = l.length → d < n → l_Md_variableAt_8 N μ (nI r) (nI k) kx n (dn (vl (l.take i)).length) (if k < (vl (l.take i)).length then (vl l).getD k 0 else 0) (nI i) = kx (if k < (vl l).length then (vl l).getD k 0 else 0) := by
  obtain ⟨h1, h2, h3, h4⟩ := h
  intro d
  induction d with
  | zero =>
    intro i n hi hn
    obtain ⟨n, rfl⟩ : ∃ m, n = m + 1 := ⟨n - 1, by omega⟩
    have : i = l.length := by omega
    subst this
    unfold l_Md_variableAt_8 f_Md_variableAt_8
    rw [ck_n h1 (by omega), nI_clamp (by omega), h2, if_pos (nI_le (Nat.le_refl _) (by omega)), List.take_length]
  | succ d ih =>
    intro i n hi hn
    obtain ⟨n, rfl⟩ : ∃ m, n = m + 1 := ⟨n - 1, by omega⟩
    have hil : i < l.length := by omega
    have ih' := ih (i + 1) n (by omega) (by omega)
    rw [vl_take_len hil] at ih'
    have hcl := List.length_filter_le (fun x => decide (x < 0)) (l.take i)
    have hcl2 : (vl (l.take i)).length ≤ i := by
      unfold vl
      rw [List.length_take] at hcl
      omega
    unfold l_Md_variableAt_8 f_Md_variableAt_8 f_Md_variableAt_41
    rw [ck_n h1 (by omega), nI_clamp (by omega), h2, if_neg (nI_ge hil (by omega)), l_8, pk_mul, nI_add, ck_n (by omega) (by omega), nI_clamp (by omega), h4 i hil, ck_n (by omega) (by omega)]
    by_cases c : l.getD i 0 < 0
    · rw [if_pos c] at ih'
      have e1 : dn (vl (l.take i)).length + 1 = nI (vl (l.take i)).length := by
        unfold dn
        exact Int32.sub_add_cancel _ _
      rw [dn_s] at ih'
      rw [if_neg (Int32.not_le.mpr c), ck_n (by omega) (by omega), if_neg (Int32.not_le.mpr c), e1, nm_d, nm_d, nI_1, nm_d]
      by_cases e : (vl (l.take i)).length = k
      · subst e
        rw [if_pos (by omega), vl_take_getD hil c] at ih'
        rw [if_pos rfl, ck_n (by omega) (by omega), vl_take_getD hil c]
        exact ih'
      · rw [if_neg (fun q => e (nI_inj (by omega) (by omega) q))]
        have e3 : (k < (vl (l.take i)).length + 1) = (k < (vl (l.take i)).length) := propext ⟨fun _ => by omega, fun _ => by omega⟩
        simp only [e3] at ih'
        exact ih'
    · rw [if_neg c, Nat.add_zero] at ih'
      rw [if_pos (Int32.not_lt.mp c), if_pos (Int32.not_lt.mp c), nm_d, nI_1]
      exact ih'
theorem q_varAt {N : Nat} (hN : 9 ≤ N) {μ : Nat → Nat → Int32} {r k : Nat} {l : List Int32} (h : MdR μ r l) (hk : k < (vl l).length) : m_Md_variableAt N μ (nI r) (nI k) = some ((vl l).getD k 0) := by
  have h8 := vl_le8 h
  have h3 := h.2.2.1
  have key := q_varAt_8 (N := N) h (show k < 2 ^ 20 by omega) (fun v4 => f_Md_variableAt_87 N μ v4) l.length 0 N (by omega) (by omega)
  unfold m_Md_variableAt f_Md_variableAt_0
  rw [if_pos hk] at key
  have e0 : (vl (l.take 0)).length = 0 := by simp [vl]
  rw [e0, if_neg (by omega), dn_0, nI_0] at key
  exact key
theorem q_isFirst_5 {N : Nat} (hN : 9 ≤ N) {μ : Nat → Nat → Int32} {r k : Nat} {l : List Int32} (h : MdR μ r l) (hk : k < (vl l).length) (kx : Int32 → Option Int32) : ∀ (d e n : Nat), e + d = k → d < n →
    ((¬ ∃ z, e ≤ z ∧ z < k ∧ (vl l).getD z 0 = (vl l).getD k 0) ∧ l_Md_isFirst_5 N μ (nI r) (nI k) kx n 1 (nI e) = kx 1) ∨ ((∃ z, e ≤ z ∧ z < k ∧ (vl l).getD z 0 = (vl l).getD k 0) ∧ l_Md_isFirst_5 N μ (nI r) (nI k) kx n 1 (nI e) = kx 0) := by
  have h8 := vl_le8 h
  -- once no, always no
  have zero : ∀ (d e n : Nat), e + d = k → d < n → l_Md_isFirst_5 N μ (nI r) (nI k) kx n 0 (nI e) = kx 0 := by
    intro d
    induction d with
    | zero =>
      intro e n he hn
      obtain ⟨n, rfl⟩ : ∃ m, n = m + 1 := ⟨n - 1, by omega⟩
      unfold l_Md_isFirst_5 f_Md_isFirst_5
      rw [if_pos (nI_le (by omega) (by omega))]
    | succ d ih =>
      intro e n he hn
      obtain ⟨n, rfl⟩ : ∃ m, n = m + 1 := ⟨n - 1, by omega⟩
      unfold l_Md_isFirst_5 f_Md_isFirst_5
      rw [if_neg (nI_ge (by omega) (by omega)), if_pos rfl, nm_d, nI_1]
      exact ih (e + 1) n (by omega) (by omega)
  intro d
  induction d with
  | zero =>
    intro e n he hn
    obtain ⟨n, rfl⟩ : ∃ m, n = m + 1 := ⟨n - 1, by omega⟩
    left
    refine ⟨fun ⟨z, h1, h2, _⟩ => by omega, ?_⟩
    unfold l_Md_isFirst_5 f_Md_isFirst_5
    rw [if_pos (nI_le (by omega) (by omega))]
  | succ d ih =>
    intro e n he hn
    obtain ⟨n, rfl⟩ : ∃ m, n = m + 1 := ⟨n - 1, by omega⟩
    obtain ⟨X, hX⟩ : ∃ X, X = l_Md_isFirst_5 N μ (nI r) (nI k) kx (n + 1) 1 (nI e) := ⟨_, rfl⟩
    rw [← hX]
    have step : X = f_Md_isFirst_5 N (l_Md_isFirst_5 N μ (nI r) (nI k) kx n) kx μ (nI r) (nI k) 1 (nI e) := hX
    unfold f_Md_isFirst_5 at step
    rw [if_neg (nI_ge (by omega) (by omega)), if_neg (by decide), q_varAt hN h (by omega), b1_some, q_varAt hN h hk, b1_some, nm_d, nm_d, nI_1] at step
    by_cases c : (vl l).getD e 0 = (vl l).getD k 0
    · rw [if_pos c, zero d (e + 1) n (by omega) (by omega)] at step
      right
      exact ⟨⟨e, Nat.le_refl _, by omega, c⟩, step⟩
    · rw [if_neg c] at step
      rw [step]
      rcases ih (e + 1) n (by omega) (by omega) with ⟨a1, a2⟩ | ⟨⟨z, z1, z2, z3⟩, a2⟩
      · left
        refine ⟨fun ⟨z, z1, z2, z3⟩ => ?_, a2⟩
        by_cases q : z = e
        · subst q
          exact c z3
        · exact a1 ⟨z, by omega, z2, z3⟩
      · right
        exact ⟨⟨z, by omega, z2, z3⟩, a2⟩
/-- the k-th variable is new -/
def nw (L : List Int32) (k : Nat) : Prop := L.getD k 0 ∉ dvs [] (L.take k)
theorem nw_iff {l : List Int32} {k : Nat} (hk : k < (vl l).length) : nw (vl l) k ↔ ¬ ∃ z, 0 ≤ z ∧ z < k ∧ (vl l).getD z 0 = (vl l).getD k 0 := by
  unfold nw
  rw [dvs_mem]
  constructor
  · rintro h ⟨z, _, z2, z3⟩
    apply h
    refine Or.inr ⟨?_, vl_neg (getD_mem hk)⟩
    rw [← z3]
    have e : ((vl l).take k).getD z 0 = (vl l).getD z 0 := by
      simp [List.getD_eq_getElem?_getD, List.getElem?_take, z2]
    rw [← e]
    exact getD_mem (by rw [List.length_take]; omega)
  · rintro h (h1 | ⟨h1, _⟩)
    · simp at h1
    · apply h
      obtain ⟨z, z1, z2⟩ := mem_getD (d := (0 : Int32)) h1
      rw [List.length_take] at z1
      refine ⟨z, by omega, by omega, ?_⟩
      rw [← z2]
      simp [List.getD_eq_getElem?_getD, List.getElem?_take, show z < k by omega]
theorem q_isFirst {N : Nat} (hN : 9 ≤ N) {μ : Nat → Nat → Int32} {r k : Nat} {l : List Int32} (h : MdR μ r l) (hk : k < (vl l).length) : (nw (vl l) k ∧ m_Md_isFirst N μ (nI r) (nI k) = some 1) ∨ (¬ nw (vl l) k ∧ m_Md_isFirst N μ (nI r) (nI k) = some 0) := by
  have h8 := vl_le8 h
  unfold m_Md_isFirst f_Md_isFirst_0
  have key := q_isFirst_5 hN h hk (fun v3 => f_Md_isFirst_43 N μ v3) k 0 N (by omega) (by omega)
  rw [nI_0] at key
  rw [nw_iff hk]
  rcases key with ⟨a1, a2⟩ | ⟨a1, a2⟩
  · left
    refine ⟨a1, a2.trans ?_⟩
    unfold f_Md_isFirst_43
    exact cb_1 _
  · right
    refine ⟨fun q => q a1, a2.trans ?_⟩
    unfold f_Md_isFirst_43
    exact cb_0 _
theorem q_different_4 {N : Nat} (hN : 9 ≤ N) {μ : Nat → Nat → Int32} {r : Nat} {l : List Int32} (h : MdR μ r l) (kx : Int32 → Option Int32) : ∀ (d k n : Nat), k + d = (vl l).length → d < n → l_Md_differentIn_4 N μ (nI r) kx n (nI (bd (vl l) k)) (nI k) = kx (nI (dv l).length) := by
  have h8 := vl_le8 h
  intro d
  induction d with
  | zero =>
    intro k n hk hn
    obtain ⟨n, rfl⟩ : ∃ m, n = m + 1 := ⟨n - 1, by omega⟩
    have : k = (vl l).length := by omega
    subst this
    unfold l_Md_differentIn_4 f_Md_differentIn_4
    rw [q_vars hN h, b1_some, if_pos (nI_le (Nat.le_refl _) (by omega)), bd_full, ← dv_vl]
  | succ d ih =>
    intro k n hk hn
    obtain ⟨n, rfl⟩ : ∃ m, n = m + 1 := ⟨n - 1, by omega⟩
    have hkl : k < (vl l).length := by omega
    have ih' := ih (k + 1) n (by omega) (by omega)
    unfold l_Md_differentIn_4 f_Md_differentIn_4
    rw [q_vars hN h, b1_some, if_neg (nI_ge hkl (by omega))]
    rcases q_isFirst hN h hkl with ⟨a1, a2⟩ | ⟨a1, a2⟩
    · rw [a2, b1_some, if_neg (by decide), nm_d, nI_1, nm_d, nI_1]
      rw [(bd_new hkl ⟨vl_neg (getD_mem hkl), a1⟩).1] at ih'
      exact ih'
    · rw [a2, b1_some, if_pos rfl, nm_d, nI_1]
      rw [bd_same hkl (fun q => a1 q.2)] at ih'
      exact ih'
theorem q_different {N : Nat} (hN : 9 ≤ N) {μ : Nat → Nat → Int32} {r : Nat} {l : List Int32} (h : MdR μ r l) : m_Md_differentIn N μ (nI r) = some (nI (dv l).length) := by
  have h8 := vl_le8 h
  have key := q_different_4 hN h (fun v2 => f_Md_differentIn_36 N μ v2) (vl l).length 0 N (by omega) (by omega)
  unfold m_Md_differentIn f_Md_differentIn_0
  rw [show bd (vl l) 0 = 0 by simp [bd, dvs], nI_0] at key
  exact key
theorem q_rank_8 {N : Nat} (hN : 9 ≤ N) {μ : Nat → Nat → Int32} {r : Nat} {l : List Int32} (h : MdR μ r l) {x : Int32} (hx : x ∈ dv l) (kx : Int32 → Option Int32) : ∀ (d k n : Nat), k + d = (vl l).length → d < n → l_Md_rankOf_8 N μ (nI r) x kx n (dn (bd (vl l) k)) (if (dv l).idxOf x < bd (vl l) k then nI ((dv l).idxOf x) else 0) (nI k) = kx (nI ((dv l).idxOf x)) := by
  have h8 := vl_le8 h
  have hi := List.idxOf_lt_length_of_mem hx
  have hdl := dv_len (vl l)
  intro d
  induction d with
  | zero =>
    intro k n hk hn
    obtain ⟨n, rfl⟩ : ∃ m, n = m + 1 := ⟨n - 1, by omega⟩
    have : k = (vl l).length := by omega
    subst this
    unfold l_Md_rankOf_8 f_Md_rankOf_8
    rw [q_vars hN h, b1_some, if_pos (nI_le (Nat.le_refl _) (by omega)), bd_full, ← dv_vl, if_pos hi]
  | succ d ih =>
    intro k n hk hn
    obtain ⟨n, rfl⟩ : ∃ m, n = m + 1 := ⟨n - 1, by omega⟩
    have hkl : k < (vl l).length := by omega
    have ih' := ih (k + 1) n (by omega) (by omega)
    have hbd := bd_le (vl l) k
    generalize hacc : (if (dv l).idxOf x < bd (vl l) k then nI ((dv l).idxOf x) else 0) = acc
    unfold l_Md_rankOf_8 f_Md_rankOf_8 f_Md_rankOf_35
    rw [q_vars hN h, b1_some, if_neg (nI_ge hkl (by omega))]
    rcases q_isFirst hN h hkl with ⟨a1, a2⟩ | ⟨a1, a2⟩
    · obtain ⟨b1, b2⟩ := bd_new hkl ⟨vl_neg (getD_mem hkl), a1⟩
      rw [← dv_vl] at b2
      have e1 : dn (bd (vl l) k) + 1 = nI (bd (vl l) k) := by
        unfold dn
        exact Int32.sub_add_cancel _ _
      rw [b1, dn_s] at ih'
      rw [a2, b1_some, if_neg (by decide), b1_some, if_neg (by decide), e1, q_varAt hN h hkl, b1_some, nm_d, nm_d, nI_1]
      by_cases e : (vl l).getD k 0 = x
      · rw [if_pos e]
        rw [e] at b2
        rw [if_pos (by omega), b2] at ih'
        rw [b2]
        exact ih'
      · rw [if_neg e]
        have e2 : (dv l).idxOf x ≠ bd (vl l) k := by
          intro q
          apply e
          rw [← b2] at q
          have hm : (vl l).getD k 0 ∈ dv l := by
            rw [dv_vl]
            exact dv_mem.mpr ⟨getD_mem hkl, vl_neg (getD_mem hkl)⟩
          have := idx_getD hx
          rw [q, idx_getD hm] at this
          exact this
        have e3 : ((dv l).idxOf x < bd (vl l) k + 1) = ((dv l).idxOf x < bd (vl l) k) := propext ⟨fun _ => by omega, fun _ => by omega⟩
        simp only [e3] at ih'
        rw [hacc] at ih'
        exact ih'
    · rw [a2, b1_some, if_pos rfl, b1_some, if_pos rfl, nm_d, nI_1]
      rw [bd_same hkl (fun q => a1 q.2), hacc] at ih'
      exact ih'
theorem q_rank {N : Nat} (hN : 9 ≤ N) {μ : Nat → Nat → Int32} {r : Nat} {l : List Int32} (h : MdR μ r l) {x : Int32} (hx : x ∈ dv l) : m_Md_rankOf N μ (nI r) x = some (nI ((dv l).idxOf x)) := by
  have h8 := vl_le8 h
  have key := q_rank_8 hN h hx (fun v4 => f_Md_rankOf_71 N μ v4) (vl l).length 0 N (by omega) (by omega)
  unfold m_Md_rankOf f_Md_rankOf_0
  rw [show bd (vl l) 0 = 0 by simp [bd, dvs], if_neg (by omega), dn_0, nI_0] at key
  exact key
/-- the model's grammar -/
def MdG (μ : Nat → Nat → Int32) (G : Gm) : Prop := GOK G ∧ μ 0 1 = nI (gS G) ∧ μ 0 2 = nI (gV G) ∧ μ 0 4 = nI (gR G) ∧ (∀ v, v < gV G → μ 1 v = nI (gvs G v)) ∧ ∀ r, r < gR G → μ 2 r = nI (grs G r) ∧ MdR μ r (gry G r)
theorem vl_le4 {G : Gm} (h : GOK G) {r : Nat} (hr : r < gR G) : (vl (gry G r)).length ≤ 4 := (h.2.2.2.2 r hr).2.2.2.2
theorem q_isPlain {μ : Nat → Nat → Int32} {G : Gm} (h : MdG μ G) {r : Nat} (hr : r < gR G) : (isU G r ∧ m_Md_isPlain μ (nI r) = some 1) ∨ (¬ isU G r ∧ m_Md_isPlain μ (nI r) = some 0) := by
  obtain ⟨_, r1, r2, r3, r4⟩ := h.2.2.2.2.2 r hr
  unfold m_Md_isPlain f_Md_isPlain_0
  rw [ck_n (by omega) (by omega), nI_clamp (by omega), r2]
  by_cases c1 : (gry G r).length = 1
  · have e0 := r4 0 (by omega)
    rw [Nat.add_zero] at e0
    rw [if_pos (of_eq_true (c_eq1 c1)), l_8, pk_mul, ck_n (by omega) (by omega), nI_clamp (by omega), e0]
    obtain ⟨x, ex⟩ := List.length_eq_one_iff.mp c1
    have eg : (gry G r).getD 0 0 = x := by rw [ex]; rfl
    rw [eg]
    by_cases c2 : x < 0
    · rw [if_neg (Int32.not_le.mpr c2)]
      exact Or.inl ⟨⟨x, c2, ex⟩, rfl⟩
    · rw [if_pos (Int32.not_lt.mp c2)]
      refine Or.inr ⟨?_, rfl⟩
      rintro ⟨y, hy, ey⟩
      rw [ex] at ey
      have : x = y := by simpa using ey
      exact c2 (this ▸ hy)
  · rw [if_neg (of_eq_false (c_ne1 c1 (by omega)))]
    exact Or.inr ⟨fun hu => c1 ((isU_iff r).mp hu).1, rfl⟩
