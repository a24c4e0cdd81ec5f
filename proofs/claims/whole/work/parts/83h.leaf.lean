/-! a leaf; the cells of one stretch -/
theorem p_addLeaf_no {N : Nat} {χ γ τ : Nat → Nat → Int32} {i : Nat} (hi : i < 12) (h : ¬ χ 2 i < 0) : m_Ch_addLeaf N χ γ τ (nI i) = some (χ, τ) := by
  unfold m_Ch_addLeaf f_Ch_addLeaf_0
  rw [p_symbolIn hi, b1_some, if_neg h]
theorem Pair.nil_v {τ : Nat → Nat → Int32} {C : Nat → List Int32} {ar : Int32 → Nat} {V Q : Nat → Prop} (hT : TT τ C ar V Q) {c : Nat} (h : Pair τ C V c []) : ¬ V (2 * c) ∧ ¬ V (2 * c + 1) := by
  rcases h with ⟨_, h1, h2⟩ | ⟨h, _⟩ | ⟨h, _⟩
  · constructor
    · intro hv
      obtain ⟨n, n0, n1, en⟩ := hT.size hv
      rw [h1] at en
      exact nI_ne0 n0 n1 en.symm
    · intro hv
      obtain ⟨n, n0, n1, en⟩ := hT.size hv
      rw [h2] at en
      exact nI_ne0 n0 n1 en.symm
  · simp at h
  · simp at h
theorem p_addLeaf {N : Nat} (hN : 151 ≤ N) {χ γ τ : Nat → Nat → Int32} {G : Gm} (hG : GrOK γ G) {C : Nat → List Int32} {V Q : Nat → Prop} (hS : FS τ C (ar G) V Q) {i v : Nat} (hi : i < 12) (hv : v < gV G) (hx : χ 2 i = vS v) (hQ : ∀ t, Q t → t ≠ 2 * cO (gvs G v) i (i + 1) ∧ t ≠ 2 * cO (gvs G v) i (i + 1) + 1) (hA : CA χ τ C V (cO (gvs G v) i (i + 1)) (fun _ => False)) :
    ∃ χ' τ' C' V', m_Ch_addLeaf N χ γ τ (nI i) = some (χ', τ') ∧ FS τ' C' (ar G) V' Q ∧ CA χ' τ' C' V' (cO (gvs G v) i (i + 1)) (fun e => e = [vS v]) ∧ Fr (cO (gvs G v) i (i + 1)) χ τ C V χ' τ' C' V' ∧ (∀ b, b ≠ 1 → χ' b = χ b) ∧ ∀ t, Q t → C' t = C t := by
  have h20 := hG.1.2.1
  have hs : gvs G v < 6 := by
    have h1 := hG.1.2.2.2.1 v hv
    have h2 := hG.1.1
    omega
  have hneg : vS v < 0 := vS_neg (by omega)
  have hc := cO_lt hs (show i < i + 1 by omega) (by omega)
  generalize hcc : cO (gvs G v) i (i + 1) = c at *
  obtain ⟨v0, p, w1, w2, w3, w4⟩ := hA
  have hp : p = [] := by
    rcases w4.shape with ⟨h, _⟩ | ⟨x, _, h, _⟩ | ⟨x, y, _, h, _⟩
    · exact h
    · exact h.elim
    · exact h.elim
  subst hp
  have hD : Dch τ (st2 (st2 τ 2 936 (vS v)) 3 936 (nI 0)) := by
    refine ⟨fun b hb s hs => ?_, fun s _ => by rw [st2_aj _ _ _ _ (by decide), st2_aj _ _ _ _ (by decide)], 0, by omega, st2_s _ _ _ _⟩
    by_cases c3 : b = 3
    · subst c3
      rw [st2_k _ _ _ (by omega), st2_aj _ _ _ _ (by decide)]
    · rw [st2_aj _ _ _ _ c3]
      by_cases c2 : b = 2
      · subst c2
        rw [st2_k _ _ _ (by omega)]
      · rw [st2_aj _ _ _ _ c2]
  generalize hτ1 : st2 (st2 τ 2 936 (vS v)) 3 936 (nI 0) = τ1 at *
  obtain ⟨τ2, C2, V2, p2, o1, o2, o3, o4, o5, o6, o7, o8⟩ := p_offer hN (hS.draft hD).1 (hS.draft hD).2.1 (hS.draft hD).2.2 (hd := vS v) (ps := []) ⟨by rw [ar_n hneg]; rfl, by simp, by rw [← hτ1, st2_aj _ _ _ _ (by decide), st2_s], by rw [← hτ1, st2_s]; rfl, fun k hk => by simp at hk⟩ hc (w3.frame (fun s hs => ⟨Iff.rfl, rfl, hD.1 1 (by decide) s (by omega)⟩)) (fun s hs he => by
      have := hQ s hs
      rcases he with he | he
      · exact absurd he this.1
      · exact absurd he this.2) (by simp)
  have e : (vS v :: (List.map C ([] : List Nat)).flatten) = [vS v] := rfl
  rw [e] at o8
  rcases o8 with ⟨_, hins⟩ | ⟨o8, _⟩
  · have hT := hins.two w4
    refine ⟨st2 χ 1 c 1, τ2, C2, V2, ?_, ⟨o2, o3, o4⟩, ⟨1, p2, st2_s _ _ _ _, Cnt.one _, o5, hT.congr (fun e => ⟨fun h => h.resolve_left id, fun h => Or.inr h⟩)⟩, ?_, fun b hb => st2_a _ _ _ hb, o7⟩
    · unfold m_Ch_addLeaf f_Ch_addLeaf_0
      have z0 : (0 : Int32) = nI 0 := nI_0.symm
      rw [p_symbolIn hi, b1_some, hx, if_pos hneg, g_sort_v hG hv, b1_some, nI_1, p_cellOf hs (by omega) (by omega), b1_some, hcc, p_setWays hc, b1_some, z0, p_startDraft (by omega), b1_some, hτ1, o1, b1_some]
    · exact Fr.trans (χ' := χ) ⟨fun _ _ => rfl, fun s s1 _ _ => ⟨Iff.rfl, rfl, hD.sam s1⟩⟩ ⟨fun k hk => st2_k _ _ _ hk, o6.1⟩
  · simp at o8
/-- the pair by place -/
theorem Pair.get {τ : Nat → Nat → Int32} {C : Nat → List Int32} {ar : Int32 → Nat} {V Q : Nat → Prop} (hT : TT τ C ar V Q) {c : Nat} {p : List (List Int32)} (h : Pair τ C V c p) {b : Nat} (hb : b < 2) : (V (2 * c + b) ∧ p[b]? = some (C (2 * c + b)) ∧ τ 1 (2 * c + b) = nI (C (2 * c + b)).length ∧ 1 ≤ (C (2 * c + b)).length) ∨ (¬ V (2 * c + b) ∧ p[b]? = none ∧ τ 1 (2 * c + b) = 0) := by
  have sz : ∀ t, V t → τ 1 t = nI (C t).length ∧ 1 ≤ (C t).length := by
    intro t ht
    have := (hT.1 t ht).2.ne
    obtain ⟨ps, _, _, _, _, _, a6, _⟩ := (hT.1 t ht).2
    exact ⟨a6, this⟩
  have nz : ∀ t, τ 1 t = 0 → ¬ V t := by
    intro t h0 hv
    obtain ⟨n, n0, n1, en⟩ := hT.size hv
    rw [h0] at en
    exact nI_ne0 n0 n1 en.symm
  have hb2 : b = 0 ∨ b = 1 := by omega
  rcases h with ⟨rfl, h1, h2⟩ | ⟨rfl, h1, h2⟩ | ⟨rfl, h1, h2⟩
  · rcases hb2 with rfl | rfl
    · exact Or.inr ⟨nz _ h1, rfl, h1⟩
    · exact Or.inr ⟨nz _ h2, rfl, h2⟩
  · rcases hb2 with rfl | rfl
    · exact Or.inl ⟨h1, rfl, sz _ h1⟩
    · exact Or.inr ⟨nz _ h2, rfl, h2⟩
  · rcases hb2 with rfl | rfl
    · exact Or.inl ⟨h1, rfl, sz _ h1⟩
    · exact Or.inl ⟨h2, rfl, sz _ h2⟩
theorem Pair.le2 {τ : Nat → Nat → Int32} {C : Nat → List Int32} {V : Nat → Prop} {c : Nat} {p : List (List Int32)} (h : Pair τ C V c p) {b : Nat} {x : List Int32} (k : p[b]? = some x) : b < 2 := by
  rcases h with ⟨rfl, _⟩ | ⟨rfl, _⟩ | ⟨rfl, _⟩
  · simp at k
  · match b, k with
    | 0, _ => omega
    | _ + 1, k => simp at k
  · match b, k with
    | 0, _ => omega
    | 1, _ => omega
    | _ + 2, k => simp at k
/-- small trees stay where they are -/
theorem Ins.keep {p p' : List (List Int32)} {D : List Int32} (h : Ins p D p') (hs : p.Pairwise cl) {x : List Int32} (hx : x.length < D.length) (b : Nat) : p[b]? = some x ↔ p'[b]? = some x := by
  rcases h with ⟨rfl, rfl⟩ | ⟨a, rfl, h, rfl⟩ | ⟨a, rfl, h, rfl⟩ | ⟨a, y, rfl, h, rfl⟩ | ⟨a, y, rfl, h, h2, rfl⟩ | ⟨a, y, rfl, h, rfl⟩
  · match b with
    | 0 => simp; rintro rfl; omega
    | _ + 1 => simp
  · have := cl_len h
    match b with
    | 0 =>
      simp only [List.getElem?_cons_zero, Option.some.injEq]
      constructor
      · rintro rfl; omega
      · rintro rfl; omega
    | 1 =>
      simp
      rintro rfl; omega
    | _ + 2 => simp
  · match b with
    | 0 => simp
    | 1 =>
      simp
      rintro rfl; omega
    | _ + 2 => simp
  · have := cl_len h
    match b with
    | 0 =>
      simp only [List.getElem?_cons_zero, Option.some.injEq]
      constructor
      · rintro rfl; omega
      · rintro rfl; omega
    | 1 => 
      simp only [List.getElem?_cons_succ, List.getElem?_cons_zero, Option.some.injEq]
      have h5 : cl a y := by simpa using hs
      have := cl_len h5
      constructor
      · rintro rfl; omega
      · rintro rfl; omega
    | _ + 2 => simp
  · have := cl_len h2
    match b with
    | 0 => simp
    | 1 =>
      simp only [List.getElem?_cons_succ, List.getElem?_cons_zero, Option.some.injEq]
      constructor
      · rintro rfl; omega
      · rintro rfl; omega
    | _ + 2 => simp
  · exact Iff.rfl
