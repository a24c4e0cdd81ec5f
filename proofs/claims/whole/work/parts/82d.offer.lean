def PC (τ : Nat → Nat → Int32) : Prop := ∀ t, t ≤ 936 → ∃ k, k ≤ 4 ∧ τ 3 t = nI k
theorem Cpd.pc {τ τ' : Nat → Nat → Int32} {src dst n : Nat} (h : Cpd τ τ' src dst n) (hs : src ≤ 936) (k : PC τ) : PC τ' := by
  intro t ht
  rw [h.2.2.1]
  by_cases c : t = dst
  · rw [c, upd_s]; exact k src hs
  · rw [upd_o _ _ c]; exact k t ht
/-- the two trees that a cell keeps -/
def Pair (τ : Nat → Nat → Int32) (C : Nat → List Int32) (V : Nat → Prop) (c : Nat) (p : List (List Int32)) : Prop :=
  (p = [] ∧ τ 1 (2 * c) = 0 ∧ τ 1 (2 * c + 1) = 0) ∨ (p = [C (2 * c)] ∧ V (2 * c) ∧ τ 1 (2 * c + 1) = 0) ∨ (p = [C (2 * c), C (2 * c + 1)] ∧ V (2 * c) ∧ V (2 * c + 1))
def Ins (p : List (List Int32)) (D : List Int32) (p' : List (List Int32)) : Prop :=
  (p = [] ∧ p' = [D]) ∨ (∃ a, p = [a] ∧ cl D a ∧ p' = [D, a]) ∨ (∃ a, p = [a] ∧ cl a D ∧ p' = [a, D]) ∨ (∃ a b, p = [a, b] ∧ cl D a ∧ p' = [D, a]) ∨ (∃ a b, p = [a, b] ∧ cl a D ∧ cl D b ∧ p' = [a, D]) ∨ (∃ a b, p = [a, b] ∧ cle b D ∧ p' = [a, b])
theorem Ins.two {A : List Int32 → Prop} {p p' : List (List Int32)} {D : List Int32} (h : Ins p D p') (k : Two A p) : Two (addc A D) p' := by
  rcases h with ⟨rfl, rfl⟩ | ⟨a, rfl, h, rfl⟩ | ⟨a, rfl, h, rfl⟩ | ⟨a, b, rfl, h, rfl⟩ | ⟨a, b, rfl, h, h2, rfl⟩ | ⟨a, b, rfl, h, rfl⟩
  · exact k.ins0 D
  · exact k.ins1a h
  · exact k.ins1b h
  · exact k.ins2a h
  · exact k.ins2b h h2
  · exact k.ins2c h
theorem TT.size {τ : Nat → Nat → Int32} {C : Nat → List Int32} {ar : Int32 → Nat} {V Q : Nat → Prop} (h : TT τ C ar V Q) {t : Nat} (ht : V t) : ∃ n, 0 < n ∧ n < 2 ^ 31 ∧ τ 1 t = nI n := by
  have hne := (h.1 t ht).2.ne
  obtain ⟨ps, _, _, _, _, _, a6, a7⟩ := (h.1 t ht).2
  exact ⟨(C t).length, by omega, by omega, a6⟩
/-- tree t is written as it was -/
def Sam (τ τ' : Nat → Nat → Int32) (t : Nat) : Prop := τ' 1 t = τ 1 t ∧ τ' 2 t = τ 2 t ∧ τ' 3 t = τ 3 t ∧ ∀ k, k < 4 → τ' 4 (4 * t + k) = τ 4 (4 * t + k)
theorem Sam.refl (τ : Nat → Nat → Int32) (t : Nat) : Sam τ τ t := ⟨rfl, rfl, rfl, fun _ _ => rfl⟩
theorem Sam.trans {τ τ' τ'' : Nat → Nat → Int32} {t : Nat} (h : Sam τ τ' t) (k : Sam τ' τ'' t) : Sam τ τ'' t :=
  ⟨k.1.trans h.1, k.2.1.trans h.2.1, k.2.2.1.trans h.2.2.1, fun q hq => (k.2.2.2 q hq).trans (h.2.2.2 q hq)⟩
/-- what offering leaves as it was -/
def Ofr (τ τ' : Nat → Nat → Int32) (C C' : Nat → List Int32) (V V' : Nat → Prop) (c : Nat) : Prop :=
  (∀ t, t < 936 → t ≠ 2 * c → t ≠ 2 * c + 1 → (V' t ↔ V t) ∧ C' t = C t ∧ Sam τ τ' t) ∧ τ' 2 936 = τ 2 936 ∧ τ' 3 936 = τ 3 936 ∧ ∀ k, τ' 4 (3744 + k) = τ 4 (3744 + k)
theorem p_put_l {N : Nat} (hN : 5 ≤ N) {τ : Nat → Nat → Int32} {C : Nat → List Int32} {ar : Int32 → Nat} {V Q : Nat → Prop} (hT : TT τ C ar V Q) (hpc : PC τ) {c : Nat} (hc : c < 468) (h9 : V 936) (q9 : ¬ Q 936) (q1 : ¬ Q (2 * c)) (q2 : ¬ Q (2 * c + 1)) :
    ∃ τ', f_Tt_offerDraft_87 N τ (nI (2 * c)) (nI (2 * c + 1)) = some τ' ∧ PC τ' ∧
      TT τ' (updC (updC C (2 * c + 1) (C (2 * c))) (2 * c) (C 936)) ar (fun t => t < 936 ∧ (t = 2 * c ∨ (t = 2 * c + 1 ∧ V (2 * c)) ∨ (t ≠ 2 * c ∧ t ≠ 2 * c + 1 ∧ V t))) Q ∧
      τ' 1 (2 * c + 1) = τ 1 (2 * c) ∧ (∀ t, t ≠ 2 * c → t ≠ 2 * c + 1 → Sam τ τ' t) ∧ τ' 2 936 = τ 2 936 ∧ τ' 3 936 = τ 3 936 ∧ ∀ k, τ' 4 (3744 + k) = τ 4 (3744 + k) := by
  obtain ⟨n, n4, hn⟩ := hpc (2 * c) (by omega)
  obtain ⟨τ1, k1, e1⟩ := p_copyTree hN (by omega : 2 * c ≤ 936) (by omega : 2 * c + 1 ≤ 936) (by omega) n4 hn
  have pc1 := k1.pc (by omega) hpc
  obtain ⟨m, m4, hm⟩ := pc1 936 (by omega)
  obtain ⟨τ2, k2, e2⟩ := p_copyTree hN (by omega : 936 ≤ 936) (by omega : 2 * c ≤ 936) (by omega) m4 hm
  refine ⟨τ2, ?_, k2.pc (by omega) pc1, ⟨?_, ?_⟩, ?_, ?_, ?_, ?_, ?_⟩
  · unfold f_Tt_offerDraft_87
    rw [e1, b1_some, l_936, e2, b1_some]
  · rintro t ⟨ht, h | ⟨h, hv⟩ | ⟨h1, h2, hv⟩⟩
    · subst h
      refine ⟨by omega, ?_⟩
      have := k2.self hm m4 q1 (k1.other n4 (by omega : 936 ≠ 2 * c + 1) q2 (C (2 * c)) (hT.1 936 h9).2)
      rw [updC_o _ _ (by omega : 936 ≠ 2 * c + 1)] at this
      exact this
    · subst h
      exact ⟨by omega, k2.other m4 (by omega) q1 _ (k1.self hn n4 q2 (hT.1 _ hv).2)⟩
    · exact ⟨by omega, k2.other m4 h1 q1 _ (k1.other n4 h2 q2 _ (hT.1 t hv).2)⟩
  · intro t ht
    have h1 : t ≠ 2 * c := fun e => q1 (e ▸ ht)
    have h2 : t ≠ 2 * c + 1 := fun e => q2 (e ▸ ht)
    have h3 : t ≠ 936 := fun e => q9 (e ▸ ht)
    have hv := hT.2 t ht
    have := (hT.1 t hv).1
    exact ⟨by omega, Or.inr (Or.inr ⟨h1, h2, hv⟩)⟩
  · rw [k2.1, upd_o _ _ (by omega), k1.1, upd_s]
  · intro t h1 h2
    refine ⟨by rw [k2.1, upd_o _ _ h1, k1.1, upd_o _ _ h2], by rw [k2.2.1, upd_o _ _ h1, k1.2.1, upd_o _ _ h2], by rw [k2.2.2.1, upd_o _ _ h1, k1.2.2.1, upd_o _ _ h2], fun k hk => ?_⟩
    rw [k2.2.2.2.2 _ (fun j hj => by omega), k1.2.2.2.2 _ (fun j hj => by omega)]
  · rw [k2.2.1, upd_o _ _ (by omega), k1.2.1, upd_o _ _ (by omega)]
  · rw [k2.2.2.1, upd_o _ _ (by omega), k1.2.2.1, upd_o _ _ (by omega)]
  · intro k
    rw [k2.2.2.2.2 _ (fun j hj => by omega), k1.2.2.2.2 _ (fun j hj => by omega)]
theorem p_put_n {N : Nat} (hN : 5 ≤ N) {τ : Nat → Nat → Int32} {C : Nat → List Int32} {ar : Int32 → Nat} {V Q : Nat → Prop} (hT : TT τ C ar V Q) (hpc : PC τ) {c : Nat} (hc : c < 468) (h9 : V 936) (q9 : ¬ Q 936) (q2 : ¬ Q (2 * c + 1)) :
    ∃ τ', m_Tt_copyTree N τ 936 (nI (2 * c + 1)) = some τ' ∧ PC τ' ∧
      TT τ' (updC C (2 * c + 1) (C 936)) ar (fun t => t < 936 ∧ (t = 2 * c + 1 ∨ (t ≠ 2 * c + 1 ∧ V t))) Q ∧
      (∀ t, t ≠ 2 * c + 1 → Sam τ τ' t) ∧ τ' 2 936 = τ 2 936 ∧ τ' 3 936 = τ 3 936 ∧ ∀ k, τ' 4 (3744 + k) = τ 4 (3744 + k) := by
  obtain ⟨n, n4, hn⟩ := hpc 936 (by omega)
  obtain ⟨τ1, k1, e1⟩ := p_copyTree hN (by omega : 936 ≤ 936) (by omega : 2 * c + 1 ≤ 936) (by omega) n4 hn
  refine ⟨τ1, e1, k1.pc (by omega) hpc, ⟨?_, ?_⟩, ?_, ?_, ?_, ?_⟩
  · rintro t ⟨ht, h | ⟨h, hv⟩⟩
    · subst h
      exact ⟨by omega, k1.self hn n4 q2 (hT.1 936 h9).2⟩
    · exact ⟨by omega, k1.other n4 h q2 _ (hT.1 t hv).2⟩
  · intro t ht
    have h2 : t ≠ 2 * c + 1 := fun e => q2 (e ▸ ht)
    have h3 : t ≠ 936 := fun e => q9 (e ▸ ht)
    have hv := hT.2 t ht
    have := (hT.1 t hv).1
    exact ⟨by omega, Or.inr ⟨h2, hv⟩⟩
  · intro t h2
    refine ⟨by rw [k1.1, upd_o _ _ h2], by rw [k1.2.1, upd_o _ _ h2], by rw [k1.2.2.1, upd_o _ _ h2], fun k hk => ?_⟩
    rw [k1.2.2.2.2 _ (fun j hj => by omega)]
  · rw [k1.2.1, upd_o _ _ (by omega)]
  · rw [k1.2.2.1, upd_o _ _ (by omega)]
  · intro k
    rw [k1.2.2.2.2 _ (fun j hj => by omega)]
/-- the draft, as it is written -/
def Dr (τ : Nat → Nat → Int32) (ar : Int32 → Nat) (Q : Nat → Prop) (hd : Int32) (ps : List Nat) : Prop :=
  ps.length = ar hd ∧ ps.length ≤ 4 ∧ τ 2 936 = hd ∧ τ 3 936 = nI ps.length ∧ ∀ k, k < ps.length → τ 4 (3744 + k) = nI (ps.getD k 0) ∧ Q (ps.getD k 0)
theorem p_offer {N : Nat} (hN : 151 ≤ N) {τ : Nat → Nat → Int32} {C : Nat → List Int32} {ar : Int32 → Nat} {V Q : Nat → Prop} (hT : TT τ C ar V Q) (hV : ∀ t, V t → t < 936 ∧ (C t).length ≤ 150) (hpc : PC τ) {hd : Int32} {ps : List Nat} (hD : Dr τ ar Q hd ps) {c : Nat} (hc : c < 468) {p : List (List Int32)} (hp : Pair τ C V c p)
    (hq : ∀ t, Q t → t = 2 * c ∨ t = 2 * c + 1 → (C t).length < (hd :: (ps.map C).flatten).length) (hn : (hd :: (ps.map C).flatten) ∉ p) :
    ∃ τ' C' V' p', m_Tt_offerDraft N τ (nI c) = some τ' ∧ TT τ' C' ar V' Q ∧ (∀ t, V' t → t < 936 ∧ (C' t).length ≤ 150) ∧ PC τ' ∧ Pair τ' C' V' c p' ∧ Ofr τ τ' C C' V V' c ∧ (∀ t, Q t → C' t = C t) ∧ (((hd :: (ps.map C).flatten).length ≤ 150 ∧ Ins p (hd :: (ps.map C).flatten) p') ∨ (150 < (hd :: (ps.map C).flatten).length ∧ p' = p)) := by
  obtain ⟨d1, d2, d3, d4, d5⟩ := hD
  have vps : ∀ k, k < ps.length → V (ps.getD k 0) := fun k hk => hT.2 _ (d5 k hk).2
  have q9 : ¬ Q 936 := fun h => by have := (hV _ (hT.2 _ h)).1; omega
  have n9 : ¬ V 936 := fun h => by have := (hV _ h).1; omega
  have hds : m_Tt_draftSize N τ = some (nI (1 + (ps.map C).flatten.length)) := p_draftSize (by omega) d2 d4 (fun k hk => by
    have hv := vps k hk
    obtain ⟨qs, _, _, _, _, _, a6, _⟩ := (hT.1 _ hv).2
    exact ⟨(d5 k hk).1, (hT.1 _ hv).1, a6⟩)
  have hlen : (hd :: (ps.map C).flatten).length = 1 + (ps.map C).flatten.length := by
    simp only [List.length_cons]; omega
  generalize hDD : (hd :: (ps.map C).flatten) = D at *
  rw [← hlen] at hds
  have hD4 : D.length ≤ 601 := by
    have : ∀ (l : List Nat), (∀ z, z ∈ l → V z) → (l.map C).flatten.length ≤ 150 * l.length := by
      intro l
      induction l with
      | nil => intro _; simp
      | cons z zs ih =>
        intro hz
        have h1 := (hV z (hz z (by simp))).2
        have h2 := ih (fun y hy => hz y (by simp [hy]))
        simp only [List.map_cons, List.flatten_cons, List.length_append, List.length_cons]
        omega
    have := this ps (fun z hz => by
      obtain ⟨k, hk, rfl⟩ := mem_getD (d := 0) hz
      exact vps k hk)
    omega
  -- the draft with its size
  have t9 : Int32.toNatClampNeg 936 = 936 := by decide
  have c9 : ∀ k : Option (Nat → Nat → Int32), ck 936 937 k = k := fun k => ck_n (j := 936) (by decide) (by decide)
  have fr1 : ∀ a, a ≠ 1 → st2 τ 1 936 (nI D.length) a = τ a := fun a ha => st2_a _ _ _ ha
  have fr2 : ∀ t, t ≠ 936 → st2 τ 1 936 (nI D.length) 1 t = τ 1 t := fun t ht => st2_k _ _ _ ht
  generalize hτ1 : st2 τ 1 936 (nI D.length) = τ1 at *
  have s9 : τ1 1 936 = nI D.length := by rw [← hτ1, st2_s]
  have mapd : ∀ qs : List Nat, (∀ k, k < qs.length → Q (qs.getD k 0)) → qs.map (updC C 936 D) = qs.map C := by
    intro qs hqs
    refine map_updC (fun z hz => ?_)
    obtain ⟨k, hk, rfl⟩ := mem_getD (d := 0) hz
    intro e
    exact q9 (e ▸ hqs k hk)
  have TkV : ∀ t, V t → Tk τ1 C ar Q t := by
    intro t ht
    have h9 : t ≠ 936 := fun e => n9 (e ▸ ht)
    obtain ⟨qs, a1, a2, a3, a4, a5, a6, a7⟩ := (hT.1 t ht).2
    refine ⟨qs, ?_, a2, ?_, ?_, ?_, ?_, a7⟩
    · rw [fr1 2 (by decide)]; exact a1
    · rw [fr1 3 (by decide)]; exact a3
    · rw [fr1 4 (by decide)]; exact a4
    · rw [fr1 2 (by decide)]; exact a5
    · rw [fr2 t h9]; exact a6
  have pc1 : PC τ1 := by
    intro t ht
    rw [fr1 3 (by decide)]
    exact hpc t ht
  have hT0 : TT τ1 C ar V Q := ⟨fun t ht => ⟨(hT.1 t ht).1, TkV t ht⟩, hT.2⟩
  have hp1 : Pair τ1 C V c p := by
    unfold Pair
    rw [fr2 _ (by omega), fr2 _ (by omega)]
    exact hp
  have hT1 : TT τ1 (updC C 936 D) ar (fun t => V t ∨ t = 936) Q := by
    refine ⟨fun t ht => ?_, fun t ht => Or.inl (hT.2 t ht)⟩
    rcases ht with ht | rfl
    · have h9 : t ≠ 936 := fun e => n9 (e ▸ ht)
      obtain ⟨qs, a1, a2, a3, a4, a5, a6, a7⟩ := TkV t ht
      refine ⟨(hT.1 t ht).1, qs, a1, a2, a3, a4, ?_, ?_, ?_⟩
      · rw [updC_o _ _ h9, mapd qs (fun k hk => (a4 k hk).2)]; exact a5
      · rw [updC_o _ _ h9]; exact a6
      · rw [updC_o _ _ h9]; exact a7
    · refine ⟨by omega, ps, ?_, d2, ?_, ?_, ?_, ?_, ?_⟩
      · rw [fr1 2 (by decide), d3]; exact d1
      · rw [fr1 3 (by decide)]; exact d4
      · rw [fr1 4 (by decide)]; exact d5
      · rw [updC_s, fr1 2 (by decide), d3, mapd ps (fun k hk => (d5 k hk).2), hDD]
      · rw [updC_s]; exact s9
      · rw [updC_s]; omega
  have start : m_Tt_offerDraft N τ (nI c) = if 150 < D.length then some τ1 else ck (nI (2 * c + 1)) 937 (if τ1 1 (2 * c + 1) ≤ 0 then f_Tt_offerDraft_67 N τ1 (nI (2 * c)) (nI (2 * c + 1)) else bd2 (m_Tt_isLess N τ1 936 (nI (2 * c + 1))) fun r s => if r = 0 then some s else f_Tt_offerDraft_67 N s (nI (2 * c)) (nI (2 * c + 1))) := by
    unfold m_Tt_offerDraft f_Tt_offerDraft_0
    rw [p_isCell hc, b1_some, if_neg (by decide), p_treeOf0, b1_some, p_treeOf1, b1_some, hds, b1_some, c9, nm_d, c9, t9, hτ1, s9, l_150, if_lt (by omega) (by omega), nI_clamp (by omega)]
  have sm : ∀ τw : Nat → Nat → Int32, (∀ a, a ≠ 5 → a ≠ 6 → τw a = τ1 a) → ∀ t, t < 936 → Sam τ τw t := by
    intro τw fw t ht
    refine ⟨by rw [fw 1 (by decide) (by decide), fr2 t (by omega)], by rw [fw 2 (by decide) (by decide), fr1 2 (by decide)], by rw [fw 3 (by decide) (by decide), fr1 3 (by decide)], fun k hk => by rw [fw 4 (by decide) (by decide), fr1 4 (by decide)]⟩
  by_cases big : 150 < D.length
  · refine ⟨τ1, C, V, p, by rw [start, if_pos big], hT0, hV, pc1, hp1, ⟨fun t h1 _ _ => ⟨Iff.rfl, rfl, sm τ1 (fun _ _ _ => rfl) t h1⟩, by rw [fr1 2 (by decide)], by rw [fr1 3 (by decide)], fun k => by rw [fr1 4 (by decide)]⟩, fun _ _ => rfl, Or.inr ⟨big, rfl⟩⟩
  · rw [if_neg big, ck_n (by omega) (by omega)] at start
    have l9 : ((updC C 936 D) 936).length ≤ 150 := by rw [updC_s]; omega
    have Cd : ∀ t, t ≠ 936 → updC C 936 D t = C t := fun t h => updC_o _ _ h
    -- D goes to the front
    have goL : ∀ τw, (∀ a, a ≠ 5 → a ≠ 6 → τw a = τ1 a) → ¬ Q (2 * c) → ¬ Q (2 * c + 1) → f_Tt_offerDraft_87 N τw (nI (2 * c)) (nI (2 * c + 1)) = m_Tt_offerDraft N τ (nI c) → ∀ p', ((p = [] ∧ p' = [D]) ∨ (V (2 * c) ∧ p' = [D, C (2 * c)])) → Ins p D p' →
        ∃ τ' C' V' p', m_Tt_offerDraft N τ (nI c) = some τ' ∧ TT τ' C' ar V' Q ∧ (∀ t, V' t → t < 936 ∧ (C' t).length ≤ 150) ∧ PC τ' ∧ Pair τ' C' V' c p' ∧ Ofr τ τ' C C' V V' c ∧ (∀ t, Q t → C' t = C t) ∧ ((D.length ≤ 150 ∧ Ins p D p') ∨ (150 < D.length ∧ p' = p)) := by
      intro τw fw q1 q2 ew p' hp' hins
      obtain ⟨τ', g1, g2, g3, g4, g5, g6, g7, g8⟩ := p_put_l (by omega : 5 ≤ N) (hT1.frame fw) (fun t ht => by rw [fw 3 (by decide) (by decide)]; exact pc1 t ht) hc (Or.inr rfl) q9 q1 q2
      rw [updC_s, Cd _ (by omega)] at g3
      refine ⟨τ', _, _, p', by rw [← ew]; exact g1, g3, ?_, g2, ?_, ⟨?_, ?_, ?_, ?_⟩, ?_, Or.inl ⟨by omega, hins⟩⟩
      · rintro t ⟨ht, h | ⟨h, hv⟩ | ⟨h1, h2, hv⟩⟩
        · subst h
          rw [updC_s]
          exact ⟨ht, by omega⟩
        · subst h
          rw [updC_o _ _ (by omega), updC_s]
          exact ⟨ht, (hV _ (hv.resolve_right (by omega))).2⟩
        · rw [updC_o _ _ h1, updC_o _ _ h2, Cd t (by omega)]
          exact ⟨ht, (hV t (hv.resolve_right (by omega))).2⟩
      · rcases hp' with ⟨hpn, hp'⟩ | ⟨hv, hp'⟩
        · right; left
          refine ⟨by rw [hp', updC_s], ⟨by omega, Or.inl rfl⟩, ?_⟩
          rw [g4, fw 1 (by decide) (by decide)]
          rcases hp1 with ⟨_, h, _⟩ | ⟨h, _⟩ | ⟨h, _⟩
          · exact h
          · rw [hpn] at h; simp at h
          · rw [hpn] at h; simp at h
        · right; right
          refine ⟨by rw [hp', updC_s, updC_o _ _ (by omega), updC_s], ⟨by omega, Or.inl rfl⟩, ⟨by omega, Or.inr (Or.inl ⟨rfl, Or.inl hv⟩)⟩⟩
      · intro t ht h1 h2
        refine ⟨⟨?_, ?_⟩, ?_, ?_⟩
        · rintro ⟨_, h | ⟨h, _⟩ | ⟨_, _, h⟩⟩
          · exact absurd h h1
          · exact absurd h h2
          · exact h.resolve_right (by omega)
        · exact fun h => ⟨ht, Or.inr (Or.inr ⟨h1, h2, Or.inl h⟩)⟩
        · rw [updC_o _ _ h1, updC_o _ _ h2, Cd t (by omega)]
        · exact (sm τw fw t ht).trans (g5 t h1 h2)
      · rw [g6, fw 2 (by decide) (by decide), fr1 2 (by decide)]
      · rw [g7, fw 3 (by decide) (by decide), fr1 3 (by decide)]
      · intro k
        rw [g8, fw 4 (by decide) (by decide), fr1 4 (by decide)]
      · intro t ht
        rw [updC_o _ _ (fun e : t = 2 * c => q1 (e ▸ ht)), updC_o _ _ (fun e : t = 2 * c + 1 => q2 (e ▸ ht)), Cd t (fun e => q9 (e ▸ ht))]
    -- D comes next
    have goN : ∀ τw, (∀ a, a ≠ 5 → a ≠ 6 → τw a = τ1 a) → V (2 * c) → ¬ Q (2 * c + 1) → m_Tt_copyTree N τw 936 (nI (2 * c + 1)) = m_Tt_offerDraft N τ (nI c) → Ins p D [C (2 * c), D] →
        ∃ τ' C' V' p', m_Tt_offerDraft N τ (nI c) = some τ' ∧ TT τ' C' ar V' Q ∧ (∀ t, V' t → t < 936 ∧ (C' t).length ≤ 150) ∧ PC τ' ∧ Pair τ' C' V' c p' ∧ Ofr τ τ' C C' V V' c ∧ (∀ t, Q t → C' t = C t) ∧ ((D.length ≤ 150 ∧ Ins p D p') ∨ (150 < D.length ∧ p' = p)) := by
      intro τw fw hv q2 ew hins
      obtain ⟨τ', g1, g2, g3, g5, g6, g7, g8⟩ := p_put_n (by omega : 5 ≤ N) (hT1.frame fw) (fun t ht => by rw [fw 3 (by decide) (by decide)]; exact pc1 t ht) hc (Or.inr rfl) q9 q2
      rw [updC_s] at g3
      refine ⟨τ', _, _, [C (2 * c), D], by rw [← ew]; exact g1, g3, ?_, g2, ?_, ⟨?_, ?_, ?_, ?_⟩, ?_, Or.inl ⟨by omega, hins⟩⟩
      · rintro t ⟨ht, h | ⟨h2, hv⟩⟩
        · subst h
          rw [updC_s]
          exact ⟨ht, by omega⟩
        · rw [updC_o _ _ h2, Cd t (by omega)]
          exact ⟨ht, (hV t (hv.resolve_right (by omega))).2⟩
      · right; right
        refine ⟨by rw [updC_s, updC_o _ _ (by omega), Cd _ (by omega)], ⟨by omega, Or.inr ⟨by omega, Or.inl hv⟩⟩, ⟨by omega, Or.inl rfl⟩⟩
      · intro t ht h1 h2
        refine ⟨⟨?_, ?_⟩, ?_, ?_⟩
        · rintro ⟨_, h | ⟨_, h⟩⟩
          · exact absurd h h2
          · exact h.resolve_right (by omega)
        · exact fun h => ⟨ht, Or.inr ⟨h2, Or.inl h⟩⟩
        · rw [updC_o _ _ h2, Cd t (by omega)]
        · exact (sm τw fw t ht).trans (g5 t h2)
      · rw [g6, fw 2 (by decide) (by decide), fr1 2 (by decide)]
      · rw [g7, fw 3 (by decide) (by decide), fr1 3 (by decide)]
      · intro k
        rw [g8, fw 4 (by decide) (by decide), fr1 4 (by decide)]
      · intro t ht
        rw [updC_o _ _ (fun e : t = 2 * c + 1 => q2 (e ▸ ht)), Cd t (fun e => q9 (e ▸ ht))]
    have nz : ∀ (t : Nat) (τw : Nat → Nat → Int32), (∀ a, a ≠ 5 → a ≠ 6 → τw a = τ1 a) → V t → ∃ n, 0 < n ∧ n < 2 ^ 31 ∧ τw 1 t = nI n := by
      intro t τw fw hv
      exact (hT0.frame fw).size hv
    have z31 : (0 : Int32) ≤ 0 := by decide
    -- from where the next one is passed on
    have go67 : ∀ τw, (∀ a, a ≠ 5 → a ≠ 6 → τw a = τ1 a) → f_Tt_offerDraft_67 N τw (nI (2 * c)) (nI (2 * c + 1)) = m_Tt_offerDraft N τ (nI c) → V (2 * c) → ¬ Q (2 * c + 1) → C (2 * c) ∈ p → (cl D (C (2 * c)) → Ins p D [D, C (2 * c)]) → (cl (C (2 * c)) D → Ins p D [C (2 * c), D]) →
        ∃ τ' C' V' p', m_Tt_offerDraft N τ (nI c) = some τ' ∧ TT τ' C' ar V' Q ∧ (∀ t, V' t → t < 936 ∧ (C' t).length ≤ 150) ∧ PC τ' ∧ Pair τ' C' V' c p' ∧ Ofr τ τ' C C' V V' c ∧ (∀ t, Q t → C' t = C t) ∧ ((D.length ≤ 150 ∧ Ins p D p') ∨ (150 < D.length ∧ p' = p)) := by
      intro τw fw ew hv q2 hmem i1 i2
      obtain ⟨n, n0, n1, en⟩ := nz (2 * c) τw fw hv
      obtain ⟨τx, b, f1, f2, f3⟩ := p_isLess hN (hT1.frame fw) (Or.inr rfl : V 936 ∨ 936 = 936) (Or.inl hv : V (2 * c) ∨ 2 * c = 936) l9
      rw [updC_s, Cd _ (by omega)] at f2
      have fx : ∀ a, a ≠ 5 → a ≠ 6 → τx a = τ1 a := fun a h5 h6 => by rw [f1 a h5 h6, fw a h5 h6]
      unfold f_Tt_offerDraft_67 at ew
      rw [ck_n (by omega) (by omega), nI_clamp (by omega), en, if_neg (nI_ne0 n0 n1), l_936, f3, b2_some] at ew
      rcases f2 with ⟨rfl, f2⟩ | ⟨rfl, f2⟩
      · rw [if_neg (by decide)] at ew
        refine goL τx fx (fun h => ?_) q2 ew _ (Or.inr ⟨hv, rfl⟩) (i1 f2)
        have h1 := hq _ h (Or.inl rfl)
        have h2 := cl_len f2
        omega
      · rw [if_pos rfl] at ew
        have hcl : cl (C (2 * c)) D := by
          rcases not_cl f2 with h | h
          · exact absurd (h ▸ hmem) hn
          · exact h
        refine goN τx fx hv q2 ?_ (i2 hcl)
        rw [← ew]
        show _ = bd1 (m_Tt_copyTree N τx (nI 936) (nI (2 * c + 1))) fun s_self_7 => some s_self_7
        rw [← l_936]
        cases m_Tt_copyTree N τx 936 (nI (2 * c + 1)) <;> rfl
    rcases hp1 with ⟨hpe, s1, s2⟩ | ⟨hpe, hv, s2⟩ | ⟨hpe, hv, hv2⟩
    · have nq1 : ¬ Q (2 * c) := fun h => by
        obtain ⟨n, n0, n1, en⟩ := hT0.size (hT.2 _ h)
        rw [s1] at en
        exact nI_ne0 n0 n1 en.symm
      have nq2 : ¬ Q (2 * c + 1) := fun h => by
        obtain ⟨n, n0, n1, en⟩ := hT0.size (hT.2 _ h)
        rw [s2] at en
        exact nI_ne0 n0 n1 en.symm
      refine goL τ1 (fun _ _ _ => rfl) nq1 nq2 ?_ [D] (Or.inl ⟨hpe, rfl⟩) (Or.inl ⟨hpe, rfl⟩)
      rw [start, s2, if_pos z31]
      unfold f_Tt_offerDraft_67
      rw [ck_n (by omega) (by omega), nI_clamp (by omega), s1, if_pos rfl]
    · have nq2 : ¬ Q (2 * c + 1) := fun h => by
        obtain ⟨n, n0, n1, en⟩ := hT0.size (hT.2 _ h)
        rw [s2] at en
        exact nI_ne0 n0 n1 en.symm
      refine go67 τ1 (fun _ _ _ => rfl) (by rw [start, s2, if_pos z31]) hv nq2 (by rw [hpe]; simp) (fun h => Or.inr (Or.inl ⟨_, hpe, h, rfl⟩)) (fun h => Or.inr (Or.inr (Or.inl ⟨_, hpe, h, rfl⟩)))
    · obtain ⟨n, n0, n1, en⟩ := nz (2 * c + 1) τ1 (fun _ _ _ => rfl) hv2
      rw [en, if_neg (by rw [← nI_0]; exact nI_ge n0 (by omega))] at start
      obtain ⟨τx, b, f1, f2, f3⟩ := p_isLess hN hT1 (Or.inr rfl : V 936 ∨ 936 = 936) (Or.inl hv2 : V (2 * c + 1) ∨ 2 * c + 1 = 936) l9
      rw [updC_s, Cd _ (by omega)] at f2
      rw [l_936, f3, b2_some] at start
      rcases f2 with ⟨rfl, f2⟩ | ⟨rfl, f2⟩
      · rw [if_neg (by decide)] at start
        have nq2 : ¬ Q (2 * c + 1) := fun h => by
          have h1 := hq _ h (Or.inr rfl)
          have h2 := cl_len f2
          omega
        exact go67 τx f1 start.symm hv nq2 (by rw [hpe]; simp) (fun h => Or.inr (Or.inr (Or.inr (Or.inl ⟨_, _, hpe, h, rfl⟩)))) (fun h => Or.inr (Or.inr (Or.inr (Or.inr (Or.inl ⟨_, _, hpe, h, f2, rfl⟩)))))
      · rw [if_pos rfl] at start
        refine ⟨τx, C, V, p, start, hT0.frame f1, hV, fun t ht => by rw [f1 3 (by decide) (by decide)]; exact pc1 t ht, Or.inr (Or.inr ⟨hpe, hv, hv2⟩), ⟨fun t h1 _ _ => ⟨Iff.rfl, rfl, sm τx f1 t h1⟩, ?_, ?_, ?_⟩, fun _ _ => rfl, Or.inl ⟨by omega, Or.inr (Or.inr (Or.inr (Or.inr (Or.inr ⟨_, _, hpe, not_cl f2, hpe⟩))))⟩⟩
        · rw [f1 2 (by decide) (by decide), fr1 2 (by decide)]
        · rw [f1 3 (by decide) (by decide), fr1 3 (by decide)]
        · intro k
          rw [f1 4 (by decide) (by decide), fr1 4 (by decide)]
