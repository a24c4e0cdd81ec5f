/-! the two least trees for n symbols: at most 12 n - 6 codes, at most 12 n codes -/
def Sm (G : Gm) (y : List Int32) : Prop := ∀ s, s < 6 → ∀ c, Sy G s y c → (∃ a, Sy G s y a ∧ a.length + 6 ≤ 12 * y.length) ∧ (12 * y.length < c.length → ∃ a b, Sy G s y a ∧ Sy G s y b ∧ a ≠ b ∧ a.length ≤ 12 * y.length ∧ b.length ≤ 12 * y.length)
theorem Pr_small {G : Gm} : ∀ {l : List Int32} {gs : List (List Int32)} {d : List Int32}, Pr G l gs d → (∀ x, x ∈ l → sX G x < 6) → (∀ g, g ∈ gs → Sm G g) → ∃ e, Pr G l gs e ∧ e.length + 6 * gs.length ≤ 12 * gs.flatten.length
  | [], [], _, _, _, _ => ⟨[], rfl, by simp⟩
  | [], _ :: _, _, k, _, _ => k.elim
  | _ :: _, [], _, k, _, _ => k.elim
  | x :: xs, g :: gs, d, k, hx, hs => by
    obtain ⟨a, b, h1, h2, _⟩ := k
    obtain ⟨e, e1, e2⟩ := Pr_small h2 (fun z hz => hx z (List.mem_cons_of_mem _ hz)) (fun z hz => hs z (List.mem_cons_of_mem _ hz))
    obtain ⟨⟨a', a1, a2⟩, _⟩ := hs g List.mem_cons_self (sX G x) (hx x List.mem_cons_self) a h1
    refine ⟨a' ++ e, ⟨a', e, a1, e1, rfl⟩, ?_⟩
    simp only [List.length_append, List.length_cons, List.flatten_cons]
    omega
theorem Pr_three {G : Gm} (hR : gR G ≤ 30) : ∀ {l : List Int32} {gs : List (List Int32)} {d : List Int32}, Pr G l gs d → (∀ x, x ∈ l → sX G x < 6) → (∀ g, g ∈ gs → Sm G g) →
    (d.length + 6 * gs.length ≤ 12 * gs.flatten.length) ∨ (d.length + 6 * gs.length ≤ 12 * gs.flatten.length + 6 ∧ ∃ e, Pr G l gs e ∧ e.length < d.length) ∨ (∃ e f, Pr G l gs e ∧ Pr G l gs f ∧ e ≠ f ∧ e.length < d.length ∧ f.length < d.length)
  | [], [], d, k, _, _ => by
    left
    rw [show d = [] from k]
    simp
  | [], _ :: _, _, k, _, _ => k.elim
  | _ :: _, [], _, k, _, _ => k.elim
  | x :: xs, g :: gs, d, k, hx, hs => by
    obtain ⟨a, b, h1, h2, rfl⟩ := k
    have ih := Pr_three hR h2 (fun z hz => hx z (List.mem_cons_of_mem _ hz)) (fun z hz => hs z (List.mem_cons_of_mem _ hz))
    obtain ⟨⟨a', a1, a2⟩, hb⟩ := hs g List.mem_cons_self (sX G x) (hx x List.mem_cons_self) a h1
    simp only [List.length_append, List.length_cons, List.flatten_cons]
    by_cases big : 12 * g.length < a.length
    · obtain ⟨p, q, p1, q1, pq, p2, q2⟩ := hb big
      refine Or.inr (Or.inr ⟨p ++ b, q ++ b, ⟨p, b, p1, h2, rfl⟩, ⟨q, b, q1, h2, rfl⟩, fun e => pq (List.append_cancel_right e), ?_, ?_⟩)
      · simp only [List.length_append]; omega
      · simp only [List.length_append]; omega
    · rcases ih with ih | ⟨ih1, e, ih2, ih3⟩ | ⟨e, f, i1, i2, i3, i4, i5⟩
      · by_cases mid : a.length + 6 ≤ 12 * g.length
        · left
          omega
        · refine Or.inr (Or.inl ⟨by omega, a' ++ b, ⟨a', b, a1, h2, rfl⟩, ?_⟩)
          simp only [List.length_append]; omega
      · by_cases mid : a.length + 6 ≤ 12 * g.length
        · refine Or.inr (Or.inl ⟨by omega, a ++ e, ⟨a, e, h1, ih2, rfl⟩, ?_⟩)
          simp only [List.length_append]; omega
        · refine Or.inr (Or.inr ⟨a ++ e, a' ++ b, ⟨a, e, h1, ih2, rfl⟩, ⟨a', b, a1, h2, rfl⟩, ?_, ?_, ?_⟩)
          · intro q
            have := (Sy_pre hR h1 a1 q).1
            rw [this] at mid
            exact mid a2
          · simp only [List.length_append]; omega
          · simp only [List.length_append]; omega
      · refine Or.inr (Or.inr ⟨a ++ e, a ++ f, ⟨a, e, h1, i1, rfl⟩, ⟨a, f, h1, i2, rfl⟩, fun q => i3 (List.append_cancel_left q), ?_, ?_⟩)
        · simp only [List.length_append]; omega
        · simp only [List.length_append]; omega
theorem Sy_small {G : Gm} (h : GOK G) : ∀ (n : Nat) (y : List Int32), y.length ≤ n → Sm G y := by
  intro n
  induction n with
  | zero =>
    intro y hy s _ c k
    exact absurd (List.length_eq_zero_iff.mp (by omega)) (Sy_y h k)
  | succ n ih =>
    intro y hy s hs c k
    have hR := h.2.2.1
    have vx : ∀ r, r < gR G → ∀ x, x ∈ dv (gry G r) → sX G x < 6 := by
      intro r hr x hx
      obtain ⟨q1, q2⟩ := dv_mem.mp hx
      exact okSym_sX6 h ((h.2.2.2.2 r hr).2.2.2.1 x q1) q2
    have pt : ∀ r, r < gR G → ¬ isU G r → ∀ gs d, Spl (gry G r) y gs → Pr G (dv (gry G r)) gs d → ∀ g, g ∈ gs → Sm G g := by
      intro r hr hu gs d hp hd g hg
      have := Spl_part h hr hu hp (Pr_ne h hd) hg
      exact ih g (by omega)
    have hA : ∃ a, Sy G s y a ∧ a.length + 6 ≤ 12 * y.length := by
      obtain ⟨u, b, u1, u2, u3⟩ := Sy_path c.length s c (Nat.le_refl _) k
      obtain ⟨v, v1, v2, v3⟩ := Pv_short h hs u.length u (Nat.le_refl _) u1
      rcases u2 with ⟨x, x1, x2, x3, x4⟩ | ⟨r, r1, r2, r3, gs, d, r4, r5, r6⟩
      · refine ⟨v.map nI ++ b, Sy_chain v s v1 (v2.symm ▸ Bs_Sy (Or.inl ⟨x, x1, x2, x3, x4⟩)), ?_⟩
        rw [x2, x3]
        simp only [List.length_append, List.length_map, List.length_cons, List.length_nil]
        omega
      · obtain ⟨e, e1, e2⟩ := Pr_small r5 (vx r r1) (pt r r1 r3 gs d r4 r5)
        refine ⟨v.map nI ++ (nI r :: e), Sy_chain v s v1 (v2.symm ▸ Bs_Sy (Or.inr ⟨r, r1, r2, r3, gs, e, r4, e1, rfl⟩)), ?_⟩
        have := Spl_sum h r1 r3 r4 (Pr_ne h r5)
        simp only [List.length_append, List.length_map, List.length_cons]
        omega
    refine ⟨hA, fun big => ?_⟩
    obtain ⟨a, a1, a2⟩ := hA
    have key : ∀ (m : Nat) (e : List Int32), e.length ≤ m → Sy G s y e → e ≠ a → ∃ f, Sy G s y f ∧ f ≠ a ∧ f.length ≤ 12 * y.length := by
      intro m
      induction m with
      | zero =>
        intro e he ke _
        exact absurd (List.length_eq_zero_iff.mp (by omega)) (Sy_ne ke)
      | succ m ihm =>
        intro e he ke hne
        by_cases big : e.length ≤ 12 * y.length
        · exact ⟨e, ke, hne, big⟩
        · obtain ⟨u, b, u1, u2, u3⟩ := Sy_path e.length s e (Nat.le_refl _) ke
          have hel : e.length = u.length + b.length := by rw [u3]; simp
          by_cases c6 : 6 ≤ u.length
          · obtain ⟨p, q, t, rfl, hq, hq6, eq⟩ := Pv_cycle h hs u1 c6
            rw [Pv_app, Pv_app] at u1
            obtain ⟨k1, k2, k3⟩ := u1
            have hql : 0 < q.length := List.length_pos_iff.mpr hq
            simp only [List.length_append] at hel c6
            have e1 : pe G s (p ++ t) = pe G s (p ++ (q ++ t)) := by rw [pe_app, pe_app, pe_app, eq]
            refine ihm ((p ++ t).map nI ++ b) ?_ (Sy_chain (p ++ t) s ((Pv_app _ _ _).mpr ⟨k1, eq ▸ k3⟩) (e1.symm ▸ Bs_Sy u2)) ?_
            · simp only [List.length_append, List.length_map]
              omega
            · intro ea
              have := congrArg List.length ea
              simp only [List.length_append, List.length_map] at this
              omega
          · rcases u2 with ⟨x, x1, x2, x3, x4⟩ | ⟨r, r1, r2, r3, gs, d, r4, r5, r6⟩
            · rw [x2] at hel
              rw [x3] at big
              simp only [List.length_cons, List.length_nil] at hel big
              omega
            · have hsum := Spl_sum h r1 r3 r4 (Pr_ne h r5)
              rw [r6] at hel
              simp only [List.length_cons] at hel
              have mkS : ∀ e', Pr G (dv (gry G r)) gs e' → Sy G s y (u.map nI ++ (nI r :: e')) := fun e' he' => Sy_chain u s u1 (Bs_Sy (Or.inr ⟨r, r1, r2, r3, gs, e', r4, he', rfl⟩))
              rcases Pr_three hR r5 (vx r r1) (pt r r1 r3 gs d r4 r5) with q | ⟨q, _⟩ | ⟨e', f', i1, i2, i3, i4, i5⟩
              · omega
              · omega
              · by_cases ce : u.map nI ++ (nI r :: e') = a
                · refine ihm (u.map nI ++ (nI r :: f')) ?_ (mkS f' i2) ?_
                  · simp only [List.length_append, List.length_map, List.length_cons]
                    omega
                  · intro cf
                    rw [← cf] at ce
                    have := List.append_cancel_left ce
                    injection this with _ this
                    exact i3 this
                · refine ihm (u.map nI ++ (nI r :: e')) ?_ (mkS e' i1) ce
                  simp only [List.length_append, List.length_map, List.length_cons]
                  omega
    have hca : c ≠ a := by
      rintro rfl
      omega
    obtain ⟨f, f1, f2, f3⟩ := key c.length c (Nat.le_refl _) k hca
    exact ⟨f, a, f1, a1, f2, f3, by omega⟩
theorem Sy_big {G : Gm} (h : GOK G) {s : Nat} (hs : s < 6) {y c : List Int32} (k : Sy G s y c) (b : 12 * y.length < c.length) : ∃ a b, Sy G s y a ∧ Sy G s y b ∧ a ≠ b ∧ a.length ≤ 12 * y.length ∧ b.length ≤ 12 * y.length :=
  (Sy_small h y.length y (Nat.le_refl _) s hs c k).2 b
theorem Two_len {G : Gm} (h : GOK G) {s : Nat} (hs : s < 6) {y : List Int32} {p : List (List Int32)} (k : Two (Sy G s y) p) : (∀ a t, p = a :: t → a.length + 6 ≤ 12 * y.length) ∧ ∀ c, c ∈ p → c.length ≤ 12 * y.length := by
  rcases k.shape with ⟨rfl, hh⟩ | ⟨a, rfl, h1, h2⟩ | ⟨a, b, rfl, h1, h2, h3, h4⟩
  · exact ⟨fun a t e => by simp at e, fun c hc => by simp at hc⟩
  · obtain ⟨⟨x, x1, x2⟩, _⟩ := Sy_small h y.length y (Nat.le_refl _) s hs a h1
    have := h2 x x1
    subst this
    refine ⟨fun a t e => ?_, fun c hc => ?_⟩
    · simp only [List.cons.injEq] at e
      rw [← e.1]; exact x2
    · simp only [List.mem_cons, List.not_mem_nil, or_false] at hc
      rw [hc]; omega
  · obtain ⟨⟨x, x1, x2⟩, _⟩ := Sy_small h y.length y (Nat.le_refl _) s hs a h1
    have ha : a.length + 6 ≤ 12 * y.length := by
      have : cle a x := by
        rcases h4 x x1 with r | r | r
        · exact Or.inl r.symm
        · exact Or.inr (r ▸ h3)
        · exact Or.inr (cl_trans h3 r)
      rcases this with rfl | q
      · exact x2
      · have := cl_len q
        omega
    have hb : b.length ≤ 12 * y.length := by
      by_cases c : 12 * y.length < b.length
      · obtain ⟨p, q, p1, q1, pq, p2, q2⟩ := Sy_big h hs h2 c
        exfalso
        have f : ∀ z, Sy G s y z → z.length ≤ 12 * y.length → z = a := by
          intro z hz hl
          rcases h4 z hz with r | r | r
          · exact r
          · subst r; omega
          · have := cl_len r; omega
        exact pq ((f p p1 p2).trans (f q q1 q2).symm)
      · omega
    refine ⟨fun a' t e => ?_, fun c hc => ?_⟩
    · simp only [List.cons.injEq] at e
      rw [← e.1]; exact ha
    · simp only [List.mem_cons, List.not_mem_nil, or_false] at hc
      rcases hc with rfl | rfl
      · omega
      · exact hb
