/-! all lengths, one after the other -/
def Fq (c s0 : Nat) (μ μ' : Nat → Nat → Int32) : Prop := (∀ b, b ≠ 0 → b ≠ 8 → b ≠ 9 → b ≠ 10 → b ≠ 11 → b ≠ 12 → b ≠ 16 → μ' b = μ b) ∧ (∀ k, k ≠ 19 → μ' 0 k = μ 0 k) ∧ (∀ s, s ≠ s0 → μ' 16 s = μ 16 s) ∧ (∀ z, z ≠ 2 * c → z ≠ 2 * c + 1 → μ' 8 z = μ 8 z) ∧ ∀ z, (∀ k, k < 400 → z ≠ 400 * c + k) → μ' 9 z = μ 9 z
theorem Fq.refl (c s0 : Nat) (μ : Nat → Nat → Int32) : Fq c s0 μ μ := ⟨fun _ _ _ _ _ _ _ _ => rfl, fun _ _ => rfl, fun _ _ => rfl, fun _ _ _ => rfl, fun _ _ => rfl⟩
theorem Fq.trans {c s0 : Nat} {μ μ' μ'' : Nat → Nat → Int32} (h : Fq c s0 μ μ') (k : Fq c s0 μ' μ'') : Fq c s0 μ μ'' :=
  ⟨fun b a1 a2 a3 a4 a5 a6 a7 => by rw [k.1 b a1 a2 a3 a4 a5 a6 a7, h.1 b a1 a2 a3 a4 a5 a6 a7], fun z hz => by rw [k.2.1 z hz, h.2.1 z hz], fun s hs => by rw [k.2.2.1 s hs, h.2.2.1 s hs], fun z h1 h2 => by rw [k.2.2.2.1 z h1 h2, h.2.2.2.1 z h1 h2], fun z hz => by rw [k.2.2.2.2 z hz, h.2.2.2.2 z hz]⟩
theorem Ft.fq {c s0 : Nat} {μ μ' : Nat → Nat → Int32} (h : Ft c s0 μ μ') : Fq c s0 μ μ' := ⟨fun b b0 b8 b9 b10 _ _ b16 => h.1 b b0 b8 b9 b10 b16, h.2⟩
theorem Fq.of {c s0 : Nat} {μ μ' : Nat → Nat → Int32} (h : ∀ b, b ≠ 11 → b ≠ 12 → μ' b = μ b) : Fq c s0 μ μ' :=
  ⟨fun b _ _ _ _ b11 b12 _ => h b b11 b12, fun k _ => by rw [h 0 (by decide) (by decide)], fun s _ => by rw [h 16 (by decide) (by decide)], fun z _ _ => by rw [h 8 (by decide) (by decide)], fun z _ => by rw [h 9 (by decide) (by decide)]⟩
theorem MP.fq {μ μ' : Nat → Nat → Int32} {c c' s0 : Nat} {p : List (List Int32)} (h : MP μ c p) (k : Fq c' s0 μ μ') (hn : c ≠ c') : MP μ' c p := by
  obtain ⟨h1, h2, ⟨a1, a2, a3⟩, ⟨b1, b2, b3⟩⟩ := h
  refine ⟨h1, h2, ⟨by rw [k.2.2.2.1 _ (by omega) (by omega)]; exact a1, a2, fun q hq => ?_⟩, ⟨by rw [k.2.2.2.1 _ (by omega) (by omega)]; exact b1, b2, fun q hq => ?_⟩⟩
  · rw [k.2.2.2.2 _ (fun z hz => by omega)]
    exact a3 q hq
  · rw [k.2.2.2.2 _ (fun z hz => by omega)]
    exact b3 q hq
theorem MF.fq {μ μ' : Nat → Nat → Int32} {c c' s0 : Nat} {A : List Int32 → Prop} (h : MF μ c A) (k : Fq c' s0 μ μ') (hn : c ≠ c') : MF μ' c A := by
  obtain ⟨v, p, h1, h2, h3, h4⟩ := h
  exact ⟨v, p, by rw [k.1 7 (by decide) (by decide) (by decide) (by decide) (by decide) (by decide) (by decide)]; exact h1, h2, h3.fq k hn, h4⟩
theorem MA.of {μ μ' : Nat → Nat → Int32} {s c : Nat} {A : List Int32 → Prop} (h : MA μ s c A) (e8 : μ' 8 = μ 8) (e9 : μ' 9 = μ 9) (e16 : μ' 16 = μ 16) : MA μ' s c A := by
  obtain ⟨v, p, h1, h2, h3, h4⟩ := h
  exact ⟨v, p, by rw [e16]; exact h1, h2, h3.same e8 e9, h4⟩
theorem MA.congr {μ : Nat → Nat → Int32} {s c : Nat} {A B : List Int32 → Prop} (h : MA μ s c A) (k : ∀ e, A e ↔ B e) : MA μ s c B := by
  obtain ⟨v, p, h1, h2, h3, h4⟩ := h
  exact ⟨v, p, h1, h2.congr k, h3, h4.congr k⟩
theorem MdR.fq {μ μ' : Nat → Nat → Int32} {r : Nat} {l : List Int32} (h : MdR μ r l) (e3 : μ' 3 = μ 3) (e4 : μ' 4 = μ 4) : MdR μ' r l := by
  obtain ⟨h1, h2, h3, h4⟩ := h
  exact ⟨h1, by rw [e3]; exact h2, h3, fun k hk => by rw [e4]; exact h4 k hk⟩
theorem MdG.fq {μ μ' : Nat → Nat → Int32} {G : Gm} (h : MdG μ G) (e0 : ∀ k, k = 1 ∨ k = 2 ∨ k = 4 → μ' 0 k = μ 0 k) (e : ∀ b, b = 1 ∨ b = 2 ∨ b = 3 ∨ b = 4 → μ' b = μ b) : MdG μ' G := by
  obtain ⟨h0, h1, h2, h3, h4, h5⟩ := h
  refine ⟨h0, by rw [e0 1 (by omega)]; exact h1, by rw [e0 2 (by omega)]; exact h2, by rw [e0 4 (by omega)]; exact h3, fun v hv => by rw [e 1 (by omega)]; exact h4 v hv, fun r hr => ⟨by rw [e 2 (by omega)]; exact (h5 r hr).1, (h5 r hr).2.fq (e 3 (by omega)) (e 4 (by omega))⟩⟩
/-- what is known while a rule is taken -/
def Rs (G : Gm) (a : Nat → Int32) (r i j : Nat) (μ : Nat → Nat → Int32) : Prop :=
  MdG μ G ∧ μ 0 25 = nI (vl (gry G r)).length ∧ Vs μ (gry G r) (vl (gry G r)).length ∧ μ 5 = a ∧ ∀ s, s < gS G → ∀ i' j', i' < j' → j' ≤ j → j' - i' < j - i → MF μ (mO s i' j') (Sy G s (sg a i' j'))
theorem Rs.fq {G : Gm} {a : Nat → Int32} {r i j : Nat} {μ μ' : Nat → Nat → Int32} (hs : gS G ≤ 6) (hij : i < j) (hj : j ≤ 12) {s0 : Nat} (h : Rs G a r i j μ) (k : Fq (mO s0 i j) s0 μ μ') : Rs G a r i j μ' := by
  obtain ⟨h1, h2, ⟨v1, v2, v3⟩, h4, h5⟩ := h
  have kk : ∀ b, b = 1 ∨ b = 2 ∨ b = 3 ∨ b = 4 ∨ b = 5 ∨ b = 13 ∨ b = 14 ∨ b = 15 → μ' b = μ b := fun b hb => k.1 b (by omega) (by omega) (by omega) (by omega) (by omega) (by omega) (by omega)
  refine ⟨h1.fq (fun z hz => k.2.1 z (by omega)) (fun b hb => kk b (by omega)), by rw [k.2.1 25 (by decide)]; exact h2, ⟨fun z hz => by rw [kk 14 (by omega), kk 15 (by omega)]; exact v1 z hz, by rw [k.2.1 26 (by decide)]; exact v2, fun z hz => by rw [kk 13 (by omega)]; exact v3 z hz⟩, by rw [kk 5 (by omega)]; exact h4, fun s hs' i' j' q1 q2 q3 => (h5 s hs' i' j' q1 q2 q3).fq k (fun e => ?_)⟩
  have := mO_inj (by omega) (by omega) (by omega) hj e
  omega
def ex (left P : Nat) (e : Nat → Nat) : Nat → Nat := fun k => if k = P then left - sm e P else e k
/-- the trees of the lengths that come before number t -/
def Cv (G : Gm) (a : Nat → Int32) (r i j left t : Nat) (x : List Int32) : Prop :=
  ∃ e, (∀ k, k < (vl (gry G r)).length - 1 → 1 ≤ e k ∧ e k ≤ left) ∧ val left e ((vl (gry G r)).length - 1) < t ∧ ((vl (gry G r)).length = 0 ∨ sm e ((vl (gry G r)).length - 1) < left) ∧ Cu a (ex left ((vl (gry G r)).length - 1) e) (fo (gry G r)) i j (gry G r) ∧ ∃ d, Pr G (dv (gry G r)) (gsOf a (ex left ((vl (gry G r)).length - 1) e) i (gry G r)) d ∧ x = nI r :: d
/-- the ways of one vector of lengths -/
theorem q_rule_286 {N : Nat} (hN : 201 ≤ N) {G : Gm} {a : Nat → Int32} {r i j : Nat} (hr : r < gR G) (hu : ¬ isU G r) (hij : i < j) (hj : j ≤ 12) {μ : Nat → Nat → Int32} (hS : Rs G a r i j μ) {el : Nat → Nat} (hel : ∀ q, q < (vl (gry G r)).length → 1 ≤ el q ∧ el q ≤ 12) (h11 : ∀ q, q < (vl (gry G r)).length → μ 11 q = nI (el q)) {A : List Int32 → Prop} (hA : MA μ (grs G r) (mO (grs G r) i j) A) (hd : Cu a el (fo (gry G r)) i j (gry G r) → ∀ d, Pr G (dv (gry G r)) (gsOf a el i (gry G r)) d → ¬ A (nI r :: d)) :
    ∃ μ' c, ((c = 0 ∧ m_Md_comesUpon N μ (nI r) (nI i) (nI j) = some (0, μ')) ∨ (∃ μ1, c = 1 ∧ m_Md_comesUpon N μ (nI r) (nI i) (nI j) = some (1, μ1) ∧ m_Md_takeWay N μ1 (nI r) (nI i) (nI j) = some μ')) ∧ Rs G a r i j μ' ∧ Fq (mO (grs G r) i j) (grs G r) μ μ' ∧ (∀ z, μ' 11 z = μ 11 z) ∧ MA μ' (grs G r) (mO (grs G r) i j) (fun e => A e ∨ (Cu a el (fo (gry G r)) i j (gry G r) ∧ ∃ d, Pr G (dv (gry G r)) (gsOf a el i (gry G r)) d ∧ e = nI r :: d)) := by
  obtain ⟨hG, h25, hV, h5, hF⟩ := hS
  have hR := hG.1.2.2.1
  have hS6 := hG.1.1
  have hM := vl_le4 hG.1 hr
  have hs : grs G r < 6 := by
    have h1 := (hG.1.2.2.2.2 r hr).1
    omega
  obtain ⟨μ1, g1, g2⟩ := q_comesUpon (N := N) (by omega) (show i ≤ j by omega) hj hM (fun q hq => (hel q hq).2) (hG.2.2.2.2.2 r hr).2 h25 h11 (fun q hq => ⟨(hV.1 q hq).2, fo_lt hq⟩)
  rw [h5] at g2
  have fq1 : Fq (mO (grs G r) i j) (grs G r) μ μ1 := Fq.of (fun b _ b12 => g1 b b12)
  have hS1 : Rs G a r i j μ1 := Rs.fq hS6 hij hj ⟨hG, h25, hV, h5, hF⟩ fq1
  have hA1 : MA μ1 (grs G r) (mO (grs G r) i j) A := hA.of (g1 8 (by decide)) (g1 9 (by decide)) (g1 16 (by decide))
  rcases g2 with ⟨c1, c2, c3⟩ | ⟨c1, c3⟩
  · -- it comes upon the stretch
    obtain ⟨sp1, sp2⟩ := Cu_spl c1
    have hbound := So_bound (gry G r) 0 i c1.1
    -- the parts
    have hfi : ∀ k, k < (dv (gry G r)).length → (vl (gry G r)).idxOf ((dv (gry G r)).getD k 0) < (vl (gry G r)).length := fun k hk => List.idxOf_lt_length_of_mem (dv_in_vl (getD_mem hk))
    have hgs : gsOf a el i (gry G r) = (List.range (dv (gry G r)).length).map (fun k => sgl a (So el (gry G r) 0 i ((vl (gry G r)).idxOf ((dv (gry G r)).getD k 0))) (el ((vl (gry G r)).idxOf ((dv (gry G r)).getD k 0)))) := by
      apply List.ext_getElem
      · simp [gsOf]
      · intro n n1 n2
        simp only [gsOf, List.getElem_map, List.getElem_range]
        have e : (dv (gry G r)).getD n 0 = (dv (gry G r))[n]'(by simpa [gsOf] using n1) := by
          rw [List.getD_eq_getElem?_getD, List.getElem?_eq_getElem]
          rfl
        rw [e]
    have hne : ∀ g, g ∈ gsOf a el i (gry G r) → g ≠ [] := by
      intro g hg
      rw [hgs] at hg
      obtain ⟨k, hk, rfl⟩ := List.mem_map.mp hg
      rw [List.mem_range] at hk
      intro e
      have := congrArg List.length e
      rw [sgl_len] at this
      have := (hel _ (hfi k hk)).1
      simp at *
      omega
    obtain ⟨hG1, h25', hV1, h51, hF1⟩ := hS1
    have h26 : μ1 0 26 = nI (dv (gry G r)).length := by
      have := hV1.2.1
      rw [bd_full, ← dv_vl] at this
      exact this
    have hbdf : bd (vl (gry G r)) (vl (gry G r)).length = (dv (gry G r)).length := by rw [bd_full, ← dv_vl]
    have vsym : ∀ k, k < (dv (gry G r)).length → ∃ v, v < gV G ∧ (dv (gry G r)).getD k 0 = vS v := by
      intro k hk
      obtain ⟨q1, q2⟩ := dv_mem.mp (getD_mem (d := (0 : Int32)) hk)
      rcases (hG.1.2.2.2.2 r hr).2.2.2.1 _ q1 with ⟨c, hc, e⟩ | h
      · rw [e] at q2
        exact absurd q2 (nI_pos (by omega))
      · exact h
    have hpz : Pz μ1 (dv (gry G r)).length (fun k => mO (sX G ((dv (gry G r)).getD k 0)) (So el (gry G r) 0 i ((vl (gry G r)).idxOf ((dv (gry G r)).getD k 0))) (So el (gry G r) 0 i ((vl (gry G r)).idxOf ((dv (gry G r)).getD k 0)) + el ((vl (gry G r)).idxOf ((dv (gry G r)).getD k 0)))) := by
      intro μ2 he k hk
      show m_Md_part μ2 (nI k) = some (nI (mO (sX G ((dv (gry G r)).getD k 0)) (So el (gry G r) 0 i ((vl (gry G r)).idxOf ((dv (gry G r)).getD k 0))) (So el (gry G r) 0 i ((vl (gry G r)).idxOf ((dv (gry G r)).getD k 0)) + el ((vl (gry G r)).idxOf ((dv (gry G r)).getD k 0)))))
      have hf := hfi k hk
      have e13 : μ2 13 k = nI ((vl (gry G r)).idxOf ((dv (gry G r)).getD k 0)) := by
        rw [he 13 (by decide) (by decide) (by decide) (by decide) (by decide)]
        exact hV1.2.2 k (by rw [hbdf]; exact hk)
      obtain ⟨v, hv, ev⟩ := vsym k hk
      have hV20 := hG.1.2.1
      generalize hfe : (vl (gry G r)).idxOf ((dv (gry G r)).getD k 0) = f at *
      have e14 : μ2 14 f = vS v := by
        rw [he 14 (by decide) (by decide) (by decide) (by decide) (by decide), (hV1.1 f hf).1, ← hfe, idx_getD (dv_in_vl (getD_mem hk)), ev]
      have e1 : μ2 1 v = nI (sX G ((dv (gry G r)).getD k 0)) := by
        rw [he 1 (by decide) (by decide) (by decide) (by decide) (by decide), hG1.2.2.2.2.1 v hv, ev]
        unfold sX
        rw [vI_vS (by omega)]
      have e12 : μ2 12 f = nI (So el (gry G r) 0 i f) := by
        rw [he 12 (by decide) (by decide) (by decide) (by decide) (by decide)]
        exact c2 f hf
      have e11 : μ2 11 f = nI (el f) := by
        rw [he 11 (by decide) (by decide) (by decide) (by decide) (by decide), g1 11 (by decide)]
        exact h11 f hf
      have hk4 := dv_le4 hG.1 hr
      unfold m_Md_part f_Md_part_0
      rw [ck_n (by omega) (by omega), nm_d, nI_clamp (by omega), e13, ck_n (by omega) (by omega), nI_clamp (by omega), e14, vS_back (by omega), ck_n (by omega) (by omega), nI_clamp (show v < 2 ^ 31 by omega), e1, ck_n (by omega) (by omega), ck_n (by omega) (by omega), ck_n (by omega) (by omega), e12, e11, nI_add, q_cellOf, b1_some]
    obtain ⟨μ', o1, o2, o3⟩ := q_takeWay hN hG1 hr hu hij hj (a := a) (ys := fun k => sgl a (So el (gry G r) 0 i ((vl (gry G r)).idxOf ((dv (gry G r)).getD k 0))) (el ((vl (gry G r)).idxOf ((dv (gry G r)).getD k 0)))) h26 hpz (fun k hk => by
        have hf := hfi k hk
        have hb := hbound ((vl (gry G r)).idxOf ((dv (gry G r)).getD k 0)) (Nat.zero_le _) (by omega)
        have hel1 := (hel _ hf).1
        have hlen : el ((vl (gry G r)).idxOf ((dv (gry G r)).getD k 0)) < j - i := by
          have := Spl_part hG.1 hr hu sp1 hne (g := sgl a (So el (gry G r) 0 i ((vl (gry G r)).idxOf ((dv (gry G r)).getD k 0))) (el ((vl (gry G r)).idxOf ((dv (gry G r)).getD k 0)))) (by
            rw [hgs]
            exact List.mem_map.mpr ⟨k, List.mem_range.mpr hk, rfl⟩)
          rw [sgl_len, sg_len] at this
          exact this
        have hsx : sX G ((dv (gry G r)).getD k 0) < gS G := by
          obtain ⟨q1, q2⟩ := dv_mem.mp (getD_mem (d := (0 : Int32)) hk)
          exact okSym_sX hG.1 ((hG.1.2.2.2.2 r hr).2.2.2.1 _ q1) q2
        refine ⟨mO_lt (by omega) (by omega) (by omega), fun e => ?_, fun e => ?_, ?_⟩
        · have := mO_inj (by omega) (by omega) (by omega) hj e
          omega
        · have := congrArg List.length e
          rw [sgl_len, List.length_nil] at this
          omega
        · have := hF1 _ hsx _ _ (show So el (gry G r) 0 i ((vl (gry G r)).idxOf ((dv (gry G r)).getD k 0)) < So el (gry G r) 0 i ((vl (gry G r)).idxOf ((dv (gry G r)).getD k 0)) + el ((vl (gry G r)).idxOf ((dv (gry G r)).getD k 0)) by omega) hb (by omega)
          unfold sg at this
          rw [Nat.add_sub_cancel_left] at this
          exact this) (by rw [← hgs]; exact sp1) hA1 (by rw [← hgs]; exact hd c1)
    rw [← hgs] at o2
    refine ⟨μ', 1, Or.inr ⟨μ1, rfl, c3, o1⟩, Rs.fq hS6 hij hj ⟨hG1, h25', hV1, h51, hF1⟩ o3.fq, fq1.trans o3.fq, fun z => by rw [o3.1 11 (by decide) (by decide) (by decide) (by decide) (by decide), g1 11 (by decide)], o2.congr (fun e => ?_)⟩
    constructor
    · rintro (q | q)
      · exact Or.inl q
      · exact Or.inr ⟨c1, q⟩
    · rintro (q | ⟨_, q⟩)
      · exact Or.inl q
      · exact Or.inr q
  · refine ⟨μ1, 0, Or.inl ⟨rfl, c3⟩, hS1, fq1, fun z => by rw [g1 11 (by decide)], hA1.congr (fun e => ?_)⟩
    constructor
    · exact fun q => Or.inl q
    · rintro (q | ⟨q, _⟩)
      · exact q
      · exact absurd q c1
