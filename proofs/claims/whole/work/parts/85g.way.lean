theorem Two.dom {A : List Int32 → Prop} {p : List (List Int32)} {d : List Int32} (h : Two A p) (k : dom p d) : Two (addc A d) p := by
  rcases k with k | ⟨k1, k2⟩
  · exact h.insEq (h.2.1 d k)
  · match p, k1, k2, h with
    | [a, b], _, k2, h => exact h.ins2c (Or.inr (k2 b (by simp)))
    | [], k1, _, _ => simp at k1
    | [_], k1, _, _ => simp at k1
    | _ :: _ :: _ :: _, k1, _, _ => simp at k1
theorem offer_two {A : List Int32 → Prop} {p p' : List (List Int32)} {d : List Int32} {fl : Int32} {μ μ' : Nat → Nat → Int32} (h : Two A p) (hd : d.length ≤ 200) (k : (fl = 1 ∧ Ins p d p' ∧ d.length ≤ 200 ∧ ¬ dom p d) ∨ (fl = 0 ∧ p' = p ∧ μ' = μ ∧ (dom p d ∨ 200 < d.length))) : Two (addc A d) p' := by
  rcases k with ⟨_, k, _⟩ | ⟨_, rfl, _, k | k⟩
  · exact k.two h
  · exact h.dom k
  · omega
/-- what is offered first, and behind it -/
def OM (A : List Int32 → Prop) (r : Nat) (a b : Nat → List Int32) (h2 : Nat → Prop) (m o : Nat) (e : List Int32) : Prop :=
  A e ∨ (0 < o ∧ e = nI r :: cat a m) ∨ ∃ q, q + 1 < o ∧ h2 q ∧ e = nI r :: cat (swp a b q) m
theorem pa_shape {p : List (List Int32)} (h : p.length ≤ 2) (hn : ∀ x, x ∈ p → x ≠ []) : (p.length = 2 ∧ p.getD 1 [] ≠ []) ∨ (p.length ≠ 2 ∧ p.getD 1 [] = []) := by
  match p, h, hn with
  | [], _, _ => exact Or.inr ⟨by simp, rfl⟩
  | [a], _, _ => exact Or.inr ⟨by simp, rfl⟩
  | [a, b], _, hn => exact Or.inl ⟨rfl, hn b (by simp)⟩
  | _ :: _ :: _ :: _, h, _ => simp at h
theorem q_way_75 {N : Nat} (hN : 201 ≤ N) {m r s0 i j : Nat} {cs : Nat → Nat} {pa : Nat → List (List Int32)} {A : List Int32 → Prop} (hm : m ≤ 4) (hr : r < 31) (hs0 : s0 < 6) (hi : i < 12) (hj : j ≤ 12) (hcs : ∀ k, k < m → cs k < 936 ∧ cs k ≠ mO s0 i j)
    (hl : ∀ k, k < m → ((pa k).getD 0 []).length ≤ 200 ∧ ((pa k).getD 1 []).length ≤ 200) (hb : ∀ o, o ≤ m → (o = 0 ∨ (pa (o - 1)).length = 2) → (nI r :: cat (fun q => (pa q).getD (if q + 1 = o then 1 else 0) []) m).length ≤ 200) :
    ∀ (d o n : Nat) (μ : Nat → Nat → Int32) (p : List (List Int32)), o + d = m + 1 → d < n → μ 0 26 = nI m → μ 2 r = nI s0 → Pz μ m cs → (∀ k, k < m → MP μ (cs k) (pa k)) → MP μ (mO s0 i j) p → Two (OM A r (fun k => (pa k).getD 0 []) (fun k => (pa k).getD 1 []) (fun k => (pa k).length = 2) m o) p →
      ∃ μ' p', MP μ' (mO s0 i j) p' ∧ Two (OM A r (fun k => (pa k).getD 0 []) (fun k => (pa k).getD 1 []) (fun k => (pa k).length = 2) m (m + 1)) p' ∧ Ft (mO s0 i j) s0 μ μ' ∧ μ' 16 = μ 16 ∧ l_Md_takeWay_75 N (nI r) (nI i) (nI j) (fun s_self => f_Md_takeWay_199 N s_self) n μ (dn o) = some μ' := by
  have hc := mO_lt hs0 hi hj
  intro d
  induction d with
  | zero =>
    intro o n μ p ho hn h26 h2 hz hpa hp hT
    obtain ⟨n, rfl⟩ : ∃ m, n = m + 1 := ⟨n - 1, by omega⟩
    have : o = m + 1 := by omega
    subst this
    refine ⟨μ, p, hp, hT, Ft.refl _ _ _, rfl, ?_⟩
    unfold l_Md_takeWay_75 f_Md_takeWay_75
    rw [dn_s, h26, if_pos (nI_le (Nat.le_refl _) (by omega))]
    rfl
  | succ d ih =>
    intro o n μ p ho hn h26 h2 hz hpa hp hT
    obtain ⟨n, rfl⟩ : ∃ m, n = m + 1 := ⟨n - 1, by omega⟩
    obtain ⟨X, hX⟩ : ∃ X, X = l_Md_takeWay_75 N (nI r) (nI i) (nI j) (fun s_self => f_Md_takeWay_199 N s_self) (n + 1) μ (dn o) := ⟨_, rfl⟩
    rw [← hX]
    have hgo : ¬ (nI m ≤ dn o) := by
      match o, ho with
      | 0, _ =>
        rw [dn_0]
        intro q
        have h1 := Int32.le_iff_toInt_le.mp q
        rw [nI_toInt (by omega), show (-1 : Int32).toInt = -1 by decide] at h1
        omega
      | o + 1, ho =>
        rw [dn_s]
        exact nI_ge (by omega) (by omega)
    have step : X = f_Md_takeWay_75 N (l_Md_takeWay_75 N (nI r) (nI i) (nI j) (fun s_self => f_Md_takeWay_199 N s_self) n) (fun s_self => f_Md_takeWay_199 N s_self) μ (nI r) (nI i) (nI j) (dn o) := hX
    unfold f_Md_takeWay_75 at step
    rw [h26, if_neg hgo] at step
    -- a draft is made and offered
    have go : (o = 0 ∨ (pa (o - 1)).length = 2) → X = f_Md_takeWay_107 N (l_Md_takeWay_75 N (nI r) (nI i) (nI j) (fun s_self => f_Md_takeWay_199 N s_self) n) (fun s_self => f_Md_takeWay_199 N s_self) μ (nI r) (nI i) (nI j) (dn o) → ∃ μ' p', MP μ' (mO s0 i j) p' ∧ Two (OM A r (fun k => (pa k).getD 0 []) (fun k => (pa k).getD 1 []) (fun k => (pa k).length = 2) m (m + 1)) p' ∧ Ft (mO s0 i j) s0 μ μ' ∧ μ' 16 = μ 16 ∧ X = some μ' := by
      intro hok hE
      unfold f_Md_takeWay_107 at hE
      obtain ⟨μ1, a1, a2, a3, a4⟩ := q_add (q_clear μ) (by simp) (nI r)
      rw [nm_d, a4, b1_some] at hE
      have f1 : ∀ a, a ≠ 0 → a ≠ 10 → μ1 a = μ a := fun a a0 a10 => by rw [a2 a a0 a10, st2_a _ _ _ a0]
      have f2 : ∀ k, k ≠ 19 → μ1 0 k = μ 0 k := fun k hk => by rw [a3 k hk, st2_k _ _ _ hk]
      have ft1 : Ft (mO s0 i j) s0 μ μ1 := Ft.draft f1 f2
      have hpa1 : ∀ k, k < m → MP μ1 (cs k) (pa k) := fun k hk => (hpa k hk).same (f1 8 (by decide) (by decide)) (f1 9 (by decide) (by decide))
      obtain ⟨μ2, b1, b2, b3, b4⟩ := q_way_127 hN (o := o) hm (fun k hk => (hcs k hk).1) (nI r) (nI i) (nI j) μ1 hpa1 (hz.ft ft1) hl (nI r) (fun s_self => f_Md_takeWay_172 N (l_Md_takeWay_75 N (nI r) (nI i) (nI j) (fun s_self => f_Md_takeWay_199 N s_self) n) (fun s_self => f_Md_takeWay_199 N s_self) s_self (nI r) (nI i) (nI j) (dn o) 1) (by omega) m 0 N μ1 (by omega) (by omega) (by rw [f2 26 (by decide)]; exact h26) (fun _ _ _ => rfl) (fun _ _ => rfl) (by simpa [cat] using a1)
      rw [nI_0] at b4
      rw [b4] at hE
      unfold f_Md_takeWay_172 at hE
      have hlen := hb o (by omega) hok
      have ft2 : Ft (mO s0 i j) s0 μ1 μ2 := Ft.draft b1 b2
      have hp2 : MP μ2 (mO s0 i j) p := (hp.same (f1 8 (by decide) (by decide)) (f1 9 (by decide) (by decide))).same (b1 8 (by decide) (by decide)) (b1 9 (by decide) (by decide))
      obtain ⟨μ3, p3, fl, c1, c2, c3, c4, c5⟩ := q_offer hN hc hp2 hT.2.2.1 b3 (by simp)
      rw [if_neg (by decide), ck_n (by omega) (by omega), nI_clamp (by omega), b1 2 (by decide) (by decide), f1 2 (by decide) (by decide), h2, q_cellOf, b1_some, c1, b2_some, nm_d] at hE
      have hT3 := offer_two hT hlen c5
      have ft3 : Ft (mO s0 i j) s0 μ μ3 := (ft1.trans ft2).trans c4.ft
      have e16 : μ3 16 = μ 16 := by rw [c4.1 16 (by decide) (by decide), b1 16 (by decide) (by decide), f1 16 (by decide) (by decide)]
      obtain ⟨μ', p', g1, g2, g3, g4, g5⟩ := ih (o + 1) n μ3 p3 (by omega) (by omega) (by rw [ft3.2.1 26 (by decide)]; exact h26) (by rw [ft3.1 2 (by decide) (by decide) (by decide) (by decide) (by decide)]; exact h2) (hz.ft ft3) (fun k hk => (hpa k hk).ft ft3 (hcs k hk).2) c2 (hT3.congr (fun e => by
        by_cases o0 : o = 0
        · subst o0
          have ec : cat (fun q => (pa q).getD (if q + 1 = 0 then 1 else 0) []) m = cat (fun k => (pa k).getD 0 []) m := cat_congr m (fun k _ => by
            show (pa k).getD (if k + 1 = 0 then 1 else 0) [] = _
            rw [if_neg (by omega)])
          rw [ec]
          constructor
          · rintro ((q | ⟨q, _⟩ | ⟨q, q1, _⟩) | q)
            · exact Or.inl q
            · omega
            · omega
            · exact Or.inr (Or.inl ⟨by omega, q⟩)
          · rintro (q | ⟨_, q⟩ | ⟨q, q1, _⟩)
            · exact Or.inl (Or.inl q)
            · exact Or.inr q
            · omega
        · have ec : cat (fun q => (pa q).getD (if q + 1 = o then 1 else 0) []) m = cat (swp (fun k => (pa k).getD 0 []) (fun k => (pa k).getD 1 []) (o - 1)) m := cat_congr m (fun k _ => by
            show (pa k).getD (if k + 1 = o then 1 else 0) [] = _
            unfold swp
            by_cases q : k = o - 1
            · rw [if_pos (by omega), if_pos q]
            · rw [if_neg (by omega), if_neg q])
          rw [ec]
          have hh := hok.resolve_left o0
          constructor
          · rintro ((q | ⟨_, q⟩ | ⟨q, q1, q2, q3⟩) | q)
            · exact Or.inl q
            · exact Or.inr (Or.inl ⟨by omega, q⟩)
            · exact Or.inr (Or.inr ⟨q, by omega, q2, q3⟩)
            · exact Or.inr (Or.inr ⟨o - 1, by omega, hh, q⟩)
          · rintro (q | ⟨_, q⟩ | ⟨q, q1, q2, q3⟩)
            · exact Or.inl (Or.inl q)
            · exact Or.inl (Or.inr (Or.inl ⟨by omega, q⟩))
            · by_cases e : q = o - 1
              · subst e
                exact Or.inr q3
              · exact Or.inl (Or.inr (Or.inr ⟨q, by omega, q2, q3⟩))))
      refine ⟨μ', p', g1, g2, ft3.trans g3, by rw [g4, e16], ?_⟩
      rw [hE]
      have ed : dn o + 1 = dn (o + 1) := by
        unfold dn
        rw [Int32.sub_add_cancel, ← nI_1, Int32.add_sub_cancel]
      rw [ed]
      exact g5
    by_cases o0 : o = 0
    · refine go (Or.inl o0) ?_
      rw [step, o0, if_pos (of_eq_true dn_neg)]
    · obtain ⟨q, rfl⟩ : ∃ q, o = q + 1 := ⟨o - 1, by omega⟩
      have hqm : q < m := by omega
      obtain ⟨cq1, cq2⟩ := hcs q hqm
      obtain ⟨p1, p2, p3, p4⟩ := hpa q hqm
      rw [dn_s, if_neg (nI_pos (by omega)), hz μ (fun _ _ _ _ _ _ => rfl) q hqm, b1_some, l_2, pk_mul, nI_1, ck_n (by omega) (by omega), nI_clamp (by omega), p4.1] at step
      rcases pa_shape p1 p2 with ⟨s1, s2⟩ | ⟨s1, s2⟩
      · have hpos : 0 < ((pa q).getD 1 []).length := List.length_pos_iff.mpr s2
        have h200 := (hl q hqm).2
        rw [if_neg (of_eq_false (c_le0 hpos (by omega)))] at step
        refine go (Or.inr s1) ?_
        rw [dn_s]
        exact step
      · rw [s2, List.length_nil, if_pos (of_eq_true (c_le0_t rfl))] at step
        obtain ⟨μ1, a1, a2, a3, a4⟩ := q_add (q_clear μ) (by simp) (nI r)
        rw [nm_d, a4, b1_some] at step
        have f1 : ∀ a, a ≠ 0 → a ≠ 10 → μ1 a = μ a := fun a a0 a10 => by rw [a2 a a0 a10, st2_a _ _ _ a0]
        have f2 : ∀ k, k ≠ 19 → μ1 0 k = μ 0 k := fun k hk => by rw [a3 k hk, st2_k _ _ _ hk]
        have ft1 : Ft (mO s0 i j) s0 μ μ1 := Ft.draft f1 f2
        obtain ⟨μ', p', g1, g2, g3, g4, g5⟩ := ih (q + 2) n μ1 p (by omega) (by omega) (by rw [f2 26 (by decide)]; exact h26) (by rw [f1 2 (by decide) (by decide)]; exact h2) (hz.ft ft1) (fun k hk => (hpa k hk).same (f1 8 (by decide) (by decide)) (f1 9 (by decide) (by decide))) (hp.same (f1 8 (by decide) (by decide)) (f1 9 (by decide) (by decide))) (hT.congr (fun e => by
          constructor
          · rintro (x | ⟨_, x⟩ | ⟨x, x1, x2, x3⟩)
            · exact Or.inl x
            · exact Or.inr (Or.inl ⟨by omega, x⟩)
            · exact Or.inr (Or.inr ⟨x, by omega, x2, x3⟩)
          · rintro (x | ⟨_, x⟩ | ⟨x, x1, x2, x3⟩)
            · exact Or.inl x
            · exact Or.inr (Or.inl ⟨by omega, x⟩)
            · by_cases e : x = q
              · subst e
                exact absurd x2 s1
              · exact Or.inr (Or.inr ⟨x, by omega, x2, x3⟩)))
        refine ⟨μ', p', g1, g2, ft1.trans g3, by rw [g4, f1 16 (by decide) (by decide)], ?_⟩
        rw [step]
        obtain ⟨N', eN⟩ : ∃ z, N = z + 1 := ⟨N - 1, by omega⟩
        have skip : ∀ (K : (Nat → Nat → Int32) → Option (Nat → Nat → Int32)), l_Md_takeWay_127 N (nI r) (nI i) (nI j) (nI q) 0 K N μ1 0 = K μ1 := by
          intro K
          have e : l_Md_takeWay_127 N (nI r) (nI i) (nI j) (nI q) 0 K (N' + 1) μ1 0 = K μ1 := by
            unfold l_Md_takeWay_127 f_Md_takeWay_127
            by_cases c : μ1 0 26 ≤ 0
            · rw [if_pos c]
            · rw [if_neg c, if_pos rfl]
          rw [← eN] at e
          exact e
        rw [skip]
        unfold f_Md_takeWay_172
        rw [if_pos rfl, nm_d, nI_1]
        rw [dn_s] at g5
        exact g5
