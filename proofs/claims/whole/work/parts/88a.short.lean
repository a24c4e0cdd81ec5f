/-! the shortest rows: f s is the length found for sort s, 0 if none -/
def rvs (G : Gm) (f : Nat → Nat) : List Int32 → Nat
  | [] => 0
  | x :: xs => (if x < 0 then f (sX G x) else 1) + rvs G f xs
def rok (G : Gm) (f : Nat → Nat) (l : List Int32) : Prop := ∀ x, x ∈ l → x < 0 → f (sX G x) ≠ 0
def Cl (G : Gm) (g : Nat → Nat) : Prop := ∀ r, r < gR G → rok G g (gry G r) → g (grs G r) ≠ 0 ∧ g (grs G r) ≤ rvs G g (gry G r)
def Ab (f g : Nat → Nat) : Prop := ∀ s, f s ≠ 0 → g s ≠ 0 ∧ g s ≤ f s
def Up (G : Gm) (r : Nat) (f f' : Nat → Nat) : Prop := (¬ rok G f (gry G r) ∧ f' = f) ∨ (rok G f (gry G r) ∧ f (grs G r) ≠ 0 ∧ f (grs G r) ≤ rvs G f (gry G r) ∧ f' = f) ∨ (rok G f (gry G r) ∧ (f (grs G r) = 0 ∨ rvs G f (gry G r) < f (grs G r)) ∧ f' = fun s => if s = grs G r then rvs G f (gry G r) else f s)
theorem rvs_mono {G : Gm} {f g : Nat → Nat} (h : Ab f g) : ∀ {l : List Int32}, rok G f l → rok G g l ∧ rvs G g l ≤ rvs G f l
  | [], _ => ⟨fun _ hx => by simp at hx, Nat.le_refl _⟩
  | x :: xs, k => by
    obtain ⟨i1, i2⟩ := rvs_mono h (l := xs) (fun z hz => k z (List.mem_cons_of_mem _ hz))
    refine ⟨fun z hz hn => ?_, ?_⟩
    · exact (h _ (k z hz hn)).1
    · show (if x < 0 then g (sX G x) else 1) + rvs G g xs ≤ (if x < 0 then f (sX G x) else 1) + rvs G f xs
      by_cases c : x < 0
      · rw [if_pos c, if_pos c]
        have := (h _ (k x List.mem_cons_self c)).2
        omega
      · rw [if_neg c, if_neg c]
        omega
theorem rvs_congr {G : Gm} {f g : Nat → Nat} : ∀ {l : List Int32}, (∀ x, x ∈ l → x < 0 → f (sX G x) = g (sX G x)) → rvs G f l = rvs G g l
  | [], _ => rfl
  | x :: xs, h => by
    show (if x < 0 then f (sX G x) else 1) + rvs G f xs = (if x < 0 then g (sX G x) else 1) + rvs G g xs
    rw [rvs_congr (fun z hz => h z (List.mem_cons_of_mem _ hz))]
    by_cases c : x < 0
    · rw [if_pos c, if_pos c, h x List.mem_cons_self c]
    · rw [if_neg c, if_neg c]
theorem rvs_ge {G : Gm} {f : Nat → Nat} : ∀ {l : List Int32} {x : Int32}, x ∈ l → x < 0 → f (sX G x) ≤ rvs G f l
  | z :: zs, x, h, c => by
    show _ ≤ (if z < 0 then f (sX G z) else 1) + rvs G f zs
    rcases List.mem_cons.mp h with rfl | h
    · rw [if_pos c]
      omega
    · have := rvs_ge (G := G) (f := f) h c
      omega
theorem rvs_le {G : Gm} {f g : Nat → Nat} (h : ∀ s, f s ≤ g s) : ∀ (l : List Int32), rvs G f l ≤ rvs G g l
  | [] => Nat.le_refl _
  | x :: xs => by
    have ih := rvs_le (G := G) h xs
    show (if x < 0 then f (sX G x) else 1) + rvs G f xs ≤ (if x < 0 then g (sX G x) else 1) + rvs G g xs
    by_cases c : x < 0
    · rw [if_pos c, if_pos c]
      have := h (sX G x)
      omega
    · rw [if_neg c, if_neg c]
      omega
theorem rvs_bd {G : Gm} {f : Nat → Nat} {b : Nat} (hb : 1 ≤ b) (h : ∀ s, f s ≤ b) : ∀ (l : List Int32), rvs G f l ≤ l.length * b
  | [] => by simp [rvs]
  | x :: xs => by
    have ih := rvs_bd (G := G) hb h xs
    show (if x < 0 then f (sX G x) else 1) + rvs G f xs ≤ (xs.length + 1) * b
    rw [Nat.add_mul, Nat.one_mul]
    by_cases c : x < 0
    · rw [if_pos c]
      have := h (sX G x)
      omega
    · rw [if_neg c]
      omega
theorem rvs_pos {G : Gm} {f : Nat → Nat} {l : List Int32} (hl : l ≠ []) (h : rok G f l) : 0 < rvs G f l := by
  match l, hl with
  | x :: xs, _ =>
    show 0 < (if x < 0 then f (sX G x) else 1) + rvs G f xs
    by_cases c : x < 0
    · rw [if_pos c]
      have := h x List.mem_cons_self c
      omega
    · rw [if_neg c]
      omega
theorem Up.ab {G : Gm} {r : Nat} (hr : r < gR G) {f f' g : Nat → Nat} (h : Up G r f f') (k : Ab f g) (c : Cl G g) : Ab f' g := by
  rcases h with ⟨_, rfl⟩ | ⟨_, _, _, rfl⟩ | ⟨h1, _, rfl⟩
  · exact k
  · exact k
  · intro s hs
    obtain ⟨m1, m2⟩ := rvs_mono k h1
    obtain ⟨c1, c2⟩ := c r hr m1
    by_cases e : s = grs G r
    · subst e
      simp only [if_true] at hs ⊢
      exact ⟨c1, by omega⟩
    · simp only [if_neg e] at hs ⊢
      exact k s hs
theorem Up.dn {G : Gm} {r : Nat} (hG : GOK G) (hr : r < gR G) {f f' : Nat → Nat} (h : Up G r f f') : Ab f f' := by
  rcases h with ⟨_, rfl⟩ | ⟨_, _, _, rfl⟩ | ⟨h1, h2, rfl⟩
  · exact fun s hs => ⟨hs, Nat.le_refl _⟩
  · exact fun s hs => ⟨hs, Nat.le_refl _⟩
  · intro s hs
    have hp := rvs_pos (hG.2.2.2.2 r hr).2.1 h1
    by_cases e : s = grs G r
    · subst e
      simp only [if_true]
      omega
    · simp only [if_neg e]
      exact ⟨hs, Nat.le_refl _⟩
def b01 (n : Nat) : Nat := if n = 0 then 0 else 1
def nz (f : Nat → Nat) : Nat := b01 (f 0) + b01 (f 1) + b01 (f 2) + b01 (f 3) + b01 (f 4) + b01 (f 5)
theorem b01_le (n : Nat) : b01 n ≤ 1 := by
  unfold b01
  split <;> omega
theorem nz_le (f : Nat → Nat) : nz f ≤ 6 := by
  have h0 := b01_le (f 0)
  have h1 := b01_le (f 1)
  have h2 := b01_le (f 2)
  have h3 := b01_le (f 3)
  have h4 := b01_le (f 4)
  have h5 := b01_le (f 5)
  unfold nz
  omega
def Bd (f : Nat → Nat) : Prop := ∀ s, f s ≤ 8 ^ nz f
theorem Bd.le {f : Nat → Nat} (h : Bd f) (s : Nat) : f s ≤ 262144 := by
  have h1 := h s
  have h2 : 8 ^ nz f ≤ 8 ^ 6 := Nat.pow_le_pow_right (by omega) (nz_le f)
  have h3 : (8 : Nat) ^ 6 = 262144 := by decide
  omega
/-- six summands, of which one changes -/
theorem six {F F' : Nat → Nat} {s : Nat} (hs : s < 6) (k : ∀ t, t ≠ s → F' t = F t) : F' 0 + F' 1 + F' 2 + F' 3 + F' 4 + F' 5 + F s = F 0 + F 1 + F 2 + F 3 + F 4 + F 5 + F' s := by
  match s, hs with
  | 0, _ => rw [k 1 (by decide), k 2 (by decide), k 3 (by decide), k 4 (by decide), k 5 (by decide)]; omega
  | 1, _ => rw [k 0 (by decide), k 2 (by decide), k 3 (by decide), k 4 (by decide), k 5 (by decide)]; omega
  | 2, _ => rw [k 1 (by decide), k 0 (by decide), k 3 (by decide), k 4 (by decide), k 5 (by decide)]; omega
  | 3, _ => rw [k 1 (by decide), k 2 (by decide), k 0 (by decide), k 4 (by decide), k 5 (by decide)]; omega
  | 4, _ => rw [k 1 (by decide), k 2 (by decide), k 3 (by decide), k 0 (by decide), k 5 (by decide)]; omega
  | 5, _ => rw [k 1 (by decide), k 2 (by decide), k 3 (by decide), k 4 (by decide), k 0 (by decide)]; omega
theorem Up.bd {G : Gm} {r : Nat} (hG : GOK G) (hr : r < gR G) {f f' : Nat → Nat} (h : Up G r f f') (k : Bd f) : Bd f' := by
  rcases h with ⟨_, rfl⟩ | ⟨_, _, _, rfl⟩ | ⟨h1, h2, rfl⟩
  · exact k
  · exact k
  · have hp := rvs_pos (hG.2.2.2.2 r hr).2.1 h1
    have hs6 : grs G r < 6 := by
      have h1 := (hG.2.2.2.2 r hr).1
      have h2 := hG.1
      omega
    have hl := (hG.2.2.2.2 r hr).2.2.1
    have hb1 : 1 ≤ 8 ^ nz f := Nat.pow_pos (by decide)
    have hv := rvs_bd (G := G) hb1 k (gry G r)
    have hv2 : (gry G r).length * 8 ^ nz f ≤ 8 * 8 ^ nz f := Nat.mul_le_mul_right _ hl
    have h6 := six (F := fun t => b01 (f t)) (F' := fun t => b01 (if t = grs G r then rvs G f (gry G r) else f t)) hs6 (fun t ht => by simp only [if_neg ht])
    simp only [if_true] at h6
    have hnz : nz (fun s => if s = grs G r then rvs G f (gry G r) else f s) + b01 (f (grs G r)) = nz f + 1 := by
      have hb : b01 (rvs G f (gry G r)) = 1 := by
        unfold b01
        rw [if_neg (by omega)]
      rw [hb] at h6
      exact h6
    intro s
    show (if s = grs G r then _ else _) ≤ _
    by_cases f0 : f (grs G r) = 0
    · have e : nz (fun s => if s = grs G r then rvs G f (gry G r) else f s) = nz f + 1 := by
        rw [f0] at hnz
        exact hnz
      rw [e, Nat.pow_succ]
      have ks := k s
      by_cases es : s = grs G r
      · rw [if_pos es]
        omega
      · rw [if_neg es]
        omega
    · have e : nz (fun s => if s = grs G r then rvs G f (gry G r) else f s) = nz f := by
        have : b01 (f (grs G r)) = 1 := by
          unfold b01
          rw [if_neg f0]
        omega
      rw [e]
      by_cases es : s = grs G r
      · rw [if_pos es]
        have := k (grs G r)
        omega
      · rw [if_neg es]
        exact k s
theorem least_ex {P : Nat → Prop} : ∀ (n : Nat), P n → ∃ m, P m ∧ ∀ k, P k → m ≤ k
  | n, h => by
    by_cases q : ∃ k, k < n ∧ P k
    · obtain ⟨k, hk, hp⟩ := q
      exact least_ex k hp
    · exact ⟨n, h, fun k hk => Nat.not_lt.mp (fun hl => q ⟨k, hl, hk⟩)⟩
/-- some sort that is not done can be done at once -/
theorem step_ex {G : Gm} {m f : Nat → Nat} (cm : Cl G m) (mn : ∀ g, Cl G g → Ab m g) (ab : Ab f m) (h : ∃ s, f s ≠ m s) : ∃ r, r < gR G ∧ rok G m (gry G r) ∧ m (grs G r) = rvs G m (gry G r) ∧ f (grs G r) ≠ m (grs G r) ∧ ∀ x, x ∈ gry G r → x < 0 → f (sX G x) = m (sX G x) := by
  apply Classical.byContradiction
  intro no
  obtain ⟨s, hs⟩ := h
  obtain ⟨c, ⟨s0, h1, h2⟩, hmin⟩ := least_ex (P := fun c => ∃ s, f s ≠ m s ∧ m s = c) (m s) ⟨s, hs, rfl⟩
  have hm0 : ∀ s, f s ≠ m s → m s ≠ 0 := by
    intro s hs h0
    have : f s ≠ 0 := fun q => hs (by rw [q, h0])
    exact (ab s this).1 h0
  have key : ∀ g : Nat → Nat, (∀ s, (f s ≠ m s ∧ m s = c → g s = c + 1) ∧ (¬ (f s ≠ m s ∧ m s = c) → g s = m s)) → False := by
    intro g hg
    have gle : ∀ s, m s ≤ g s := by
      intro s
      by_cases q : f s ≠ m s ∧ m s = c
      · rw [(hg s).1 q, q.2]
        omega
      · rw [(hg s).2 q]
        exact Nat.le_refl _
    have gok : ∀ s, g s ≠ 0 → m s ≠ 0 := by
      intro s
      by_cases q : f s ≠ m s ∧ m s = c
      · exact fun _ => hm0 s q.1
      · rw [(hg s).2 q]
        exact id
    have cg : Cl G g := by
      intro r hr hk
      have hkm : rok G m (gry G r) := fun x hx hn => gok _ (hk x hx hn)
      obtain ⟨c1, c2⟩ := cm r hr hkm
      have le := rvs_le (G := G) gle (gry G r)
      by_cases q : f (grs G r) ≠ m (grs G r) ∧ m (grs G r) = c
      · rw [(hg _).1 q]
        refine ⟨by omega, ?_⟩
        by_cases big : c + 1 ≤ rvs G m (gry G r)
        · omega
        · have ee : m (grs G r) = rvs G m (gry G r) := by
            have := q.2
            omega
          apply Classical.byContradiction
          intro small
          apply no
          refine ⟨r, hr, hkm, ee, q.1, fun x hx hn => ?_⟩
          apply Classical.byContradiction
          intro hne
          have h3 := hmin _ ⟨sX G x, hne, rfl⟩
          have h4 := rvs_ge (G := G) (f := m) hx hn
          have h5 : m (sX G x) = c := by
            have := q.2
            omega
          have h6 := rvs_ge (G := G) (f := g) hx hn
          rw [(hg _).1 ⟨hne, h5⟩] at h6
          exact small h6
      · rw [(hg _).2 q]
        exact ⟨c1, by omega⟩
    have := (mn g cg s0 (by rw [h2]; have := hm0 s0 h1; omega)).2
    rw [(hg s0).1 ⟨h1, h2⟩, h2] at this
    omega
  refine key (fun s => @ite _ (f s ≠ m s ∧ m s = c) (Classical.propDecidable _) (c + 1) (m s)) (fun s => ⟨fun q => if_pos q, fun q => if_neg q⟩)
theorem done_stays {f f' m : Nat → Nat} (d : Ab f f') (a : Ab f' m) {s : Nat} (h : f s = m s) : f' s = m s := by
  by_cases z : m s = 0
  · apply Classical.byContradiction
    intro q
    exact (a s (by rw [z] at q; exact q)).1 z
  · have h1 := d s (by rw [h]; exact z)
    have h2 := a s h1.1
    omega
def Ups (G : Gm) : Nat → Nat → (Nat → Nat) → (Nat → Nat) → Prop
  | 0, _, f, f' => f' = f
  | d + 1, q, f, f' => ∃ f1, Up G q f f1 ∧ Ups G d (q + 1) f1 f'
theorem Ab.trans {f g h : Nat → Nat} (a : Ab f g) (b : Ab g h) : Ab f h := fun s hs => by
  have h1 := a s hs
  have h2 := b s h1.1
  exact ⟨h2.1, by omega⟩
theorem Ups.all {G : Gm} (hG : GOK G) : ∀ {d q : Nat} {f f' : Nat → Nat}, Ups G d q f f' → q + d ≤ gR G → Ab f f' ∧ (Bd f → Bd f') ∧ ∀ g, Cl G g → Ab f g → Ab f' g
  | 0, q, f, f', h, _ => by
    have h : f' = f := h
    subst h
    exact ⟨fun s hs => ⟨hs, Nat.le_refl _⟩, id, fun _ _ k => k⟩
  | d + 1, q, f, f', ⟨f1, h1, h2⟩, hq => by
    obtain ⟨i1, i2, i3⟩ := Ups.all hG h2 (by omega)
    exact ⟨(h1.dn hG (by omega)).trans i1, fun k => i2 (h1.bd hG (by omega) k), fun g cg k => i3 g cg (h1.ab (by omega) k cg)⟩
theorem Ups.hit {G : Gm} (hG : GOK G) {m : Nat → Nat} (cm : Cl G m) {r : Nat} (hr : r < gR G) (ok : rok G m (gry G r)) (e : m (grs G r) = rvs G m (gry G r)) : ∀ {d q : Nat} {f f' : Nat → Nat}, Ups G d q f f' → q + d ≤ gR G → q ≤ r → r < q + d → Ab f m → (∀ x, x ∈ gry G r → x < 0 → f (sX G x) = m (sX G x)) → f' (grs G r) = m (grs G r)
  | 0, q, f, f', _, _, h1, h2, _, _ => by omega
  | d + 1, q, f, f', ⟨f1, h1, h2⟩, hq, g1, g2, ab, hx => by
    have ab1 := h1.ab (by omega) ab cm
    have dn1 := h1.dn hG (by omega)
    obtain ⟨i1, _, i3⟩ := Ups.all hG h2 (by omega)
    by_cases eq : r = q
    · subst eq
      refine done_stays i1 (i3 m cm ab1) ?_
      have okf : rok G f (gry G r) := fun x hx' hn => by rw [hx x hx' hn]; exact ok x hx' hn
      have ev : rvs G f (gry G r) = m (grs G r) := by rw [e]; exact rvs_congr hx
      rcases h1 with ⟨n, _⟩ | ⟨_, n0, n1, rfl⟩ | ⟨_, _, rfl⟩
      · exact absurd okf n
      · have := (ab _ n0).2
        omega
      · simp only [if_true]
        exact ev
    · exact Ups.hit hG cm hr ok e h2 (by omega) (by omega) (by omega) ab1 (fun x hx' hn => done_stays dn1 ab1 (hx x hx' hn))
/-- sorts that are not done yet -/
def nd (m f : Nat → Nat) : Nat := b01 (if f 0 = m 0 then 0 else 1) + b01 (if f 1 = m 1 then 0 else 1) + b01 (if f 2 = m 2 then 0 else 1) + b01 (if f 3 = m 3 then 0 else 1) + b01 (if f 4 = m 4 then 0 else 1) + b01 (if f 5 = m 5 then 0 else 1)
theorem nd_lt {m f f' : Nat → Nat} (h : ∀ s, f s = m s → f' s = m s) {s : Nat} (hs : s < 6) (h1 : f s ≠ m s) (h2 : f' s = m s) : nd m f' + 1 ≤ nd m f := by
  have le : ∀ t, b01 (if f' t = m t then 0 else 1) ≤ b01 (if f t = m t then 0 else 1) := by
    intro t
    by_cases e : f t = m t
    · rw [if_pos e, if_pos (h t e)]
      exact Nat.le_refl _
    · rw [if_neg e]
      exact b01_le _
  have l0 := le 0
  have l1 := le 1
  have l2 := le 2
  have l3 := le 3
  have l4 := le 4
  have l5 := le 5
  have e1 : b01 (if f s = m s then 0 else 1) = 1 := by rw [if_neg h1]; rfl
  have e2 : b01 (if f' s = m s then 0 else 1) = 0 := by rw [if_pos h2]; rfl
  unfold nd
  match s, hs with
  | 0, _ => omega
  | 1, _ => omega
  | 2, _ => omega
  | 3, _ => omega
  | 4, _ => omega
  | 5, _ => omega
theorem nd_le (m f : Nat → Nat) : nd m f ≤ 6 := by
  unfold nd
  have l0 := b01_le (if f 0 = m 0 then 0 else 1)
  have l1 := b01_le (if f 1 = m 1 then 0 else 1)
  have l2 := b01_le (if f 2 = m 2 then 0 else 1)
  have l3 := b01_le (if f 3 = m 3 then 0 else 1)
  have l4 := b01_le (if f 4 = m 4 then 0 else 1)
  have l5 := b01_le (if f 5 = m 5 then 0 else 1)
  omega
/-- a round brings a sort more -/
theorem round {G : Gm} (hG : GOK G) {m f f' : Nat → Nat} (cm : Cl G m) (mn : ∀ g, Cl G g → Ab m g) (ab : Ab f m) (h : Ups G (gR G) 0 f f') : Ab f' m ∧ ((∀ s, f' s = m s) ∨ nd m f' + 1 ≤ nd m f) := by
  obtain ⟨i1, _, i3⟩ := Ups.all hG h (by omega)
  have ab' := i3 m cm ab
  refine ⟨ab', ?_⟩
  by_cases q : ∃ s, f s ≠ m s
  · obtain ⟨r, r1, r2, r3, r4, r5⟩ := step_ex cm mn ab q
    have hs6 : grs G r < 6 := by
      have h1 := (hG.2.2.2.2 r r1).1
      have h2 := hG.1
      omega
    exact Or.inr (nd_lt (fun s hs => done_stays i1 ab' hs) hs6 r4 (Ups.hit hG cm r1 r2 r3 h (by omega) (by omega) (by omega) ab r5))
  · refine Or.inl (fun s => done_stays i1 ab' ?_)
    apply Classical.byContradiction
    exact fun e => q ⟨s, e⟩
