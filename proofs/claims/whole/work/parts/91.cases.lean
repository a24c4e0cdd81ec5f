/-! the law's cases -/
theorem b6_some {α1 α2 α3 α4 α5 α6 β : Type} (a1 : α1) (a2 : α2) (a3 : α3) (a4 : α4) (a5 : α5) (a6 : α6) (k : α1 → α2 → α3 → α4 → α5 → α6 → Option β) : bd6 (some (a1, a2, a3, a4, a5, a6)) k = k a1 a2 a3 a4 a5 a6 := id rfl
theorem b8_some {α1 α2 α3 α4 α5 α6 α7 α8 β : Type} (a1 : α1) (a2 : α2) (a3 : α3) (a4 : α4) (a5 : α5) (a6 : α6) (a7 : α7) (a8 : α8) (k : α1 → α2 → α3 → α4 → α5 → α6 → α7 → α8 → Option β) : bd8 (some (a1, a2, a3, a4, a5, a6, a7, a8)) k = k a1 a2 a3 a4 a5 a6 a7 a8 := id rfl
def RelT (s_x s_grammar s_chart s_table s_grower s_grown s_joined s_short s_row s_tape s_least s_next s_m : Nat → Nat → Int32) (s_mleast : Nat → Int64) : Prop := RlR s_x s_grammar s_chart s_table s_row s_tape s_m
theorem h_sort : CaseOK RelT f_law_128 := by
  intro s_x s_grammar s_chart s_table s_grower s_grown s_joined s_short s_row s_tape s_least s_next s_m s_mleast h a1 a2 a3 N hN
  obtain ⟨r, t_grammar, t_m, e1, e2, h'⟩ := c_sort  h
  refine ⟨s_x, t_grammar, s_chart, s_table, s_grower, s_grown, s_joined, s_short, s_row, s_tape, s_least, s_next, t_m, s_mleast, h', ?_⟩
  intro L xs kb kx v3 i1 i2 i3 x1 x2 x3
  unfold f_law_128
  rw [e1, b2_some, e2, b2_some, if_pos rfl, nm_d]
theorem h_variable : CaseOK RelT f_law_141 := by
  intro s_x s_grammar s_chart s_table s_grower s_grown s_joined s_short s_row s_tape s_least s_next s_m s_mleast h a1 a2 a3 N hN
  obtain ⟨r, t_grammar, t_m, e1, e2, h'⟩ := c_variable  h a1
  refine ⟨s_x, t_grammar, s_chart, s_table, s_grower, s_grown, s_joined, s_short, s_row, s_tape, s_least, s_next, t_m, s_mleast, h', ?_⟩
  intro L xs kb kx v3 i1 i2 i3 x1 x2 x3
  unfold f_law_141
  rw [ck_i i1, x1, e1, b2_some, ck_i i1, e2, b2_some, if_pos rfl, nm_d]
theorem h_begin : CaseOK RelT f_law_164 := by
  intro s_x s_grammar s_chart s_table s_grower s_grown s_joined s_short s_row s_tape s_least s_next s_m s_mleast h a1 a2 a3 N hN
  obtain ⟨r, t_grammar, t_m, e1, e2, h'⟩ := c_begin  h a1
  refine ⟨s_x, t_grammar, s_chart, s_table, s_grower, s_grown, s_joined, s_short, s_row, s_tape, s_least, s_next, t_m, s_mleast, h', ?_⟩
  intro L xs kb kx v3 i1 i2 i3 x1 x2 x3
  unfold f_law_164
  rw [ck_i i1, x1, e1, b2_some, ck_i i1, e2, b2_some, if_pos rfl, nm_d]
theorem h_put : CaseOK RelT f_law_187 := by
  intro s_x s_grammar s_chart s_table s_grower s_grown s_joined s_short s_row s_tape s_least s_next s_m s_mleast h a1 a2 a3 N hN
  have h9 : 9 ≤ N := by
    have : 4000000 ≤ NB := by unfold NB; omega
    omega
  obtain ⟨r, t_grammar, t_m, e1, e2, h'⟩ := c_put (N := N) h9 h a1
  refine ⟨s_x, t_grammar, s_chart, s_table, s_grower, s_grown, s_joined, s_short, s_row, s_tape, s_least, s_next, t_m, s_mleast, h', ?_⟩
  intro L xs kb kx v3 i1 i2 i3 x1 x2 x3
  unfold f_law_187
  rw [ck_i i1, x1, e1, b2_some, ck_i i1, e2, b2_some, if_pos rfl, nm_d]
theorem h_close : CaseOK RelT f_law_210 := by
  intro s_x s_grammar s_chart s_table s_grower s_grown s_joined s_short s_row s_tape s_least s_next s_m s_mleast h a1 a2 a3 N hN
  have h9 : 9 ≤ N := by
    have : 4000000 ≤ NB := by unfold NB; omega
    omega
  obtain ⟨r, t_grammar, t_m, e1, e2, h'⟩ := c_close (N := N) h9 h
  refine ⟨s_x, t_grammar, s_chart, s_table, s_grower, s_grown, s_joined, s_short, s_row, s_tape, s_least, s_next, t_m, s_mleast, h', ?_⟩
  intro L xs kb kx v3 i1 i2 i3 x1 x2 x3
  unfold f_law_210
  rw [e1, b2_some, e2, b2_some, if_pos rfl, nm_d]
theorem h_token : CaseOK RelT f_law_223 := by
  intro s_x s_grammar s_chart s_table s_grower s_grown s_joined s_short s_row s_tape s_least s_next s_m s_mleast h a1 a2 a3 N hN
  obtain ⟨r, t_row, t_m, e1, e2, h'⟩ := c_token  h a1
  refine ⟨s_x, s_grammar, s_chart, s_table, s_grower, s_grown, s_joined, s_short, t_row, s_tape, s_least, s_next, t_m, s_mleast, h', ?_⟩
  intro L xs kb kx v3 i1 i2 i3 x1 x2 x3
  unfold f_law_223
  rw [ck_i i1, x1, e1, b2_some, ck_i i1, e2, b2_some, if_pos rfl, nm_d]
theorem h_drop : CaseOK RelT f_law_246 := by
  intro s_x s_grammar s_chart s_table s_grower s_grown s_joined s_short s_row s_tape s_least s_next s_m s_mleast h a1 a2 a3 N hN
  obtain ⟨r, t_row, t_m, e1, e2, h'⟩ := c_drop  h
  refine ⟨s_x, s_grammar, s_chart, s_table, s_grower, s_grown, s_joined, s_short, t_row, s_tape, s_least, s_next, t_m, s_mleast, h', ?_⟩
  intro L xs kb kx v3 i1 i2 i3 x1 x2 x3
  unfold f_law_246
  rw [e1, b2_some, e2, b2_some, if_pos rfl, nm_d]
theorem h_trees : CaseOK RelT f_law_259 := by
  intro s_x s_grammar s_chart s_table s_grower s_grown s_joined s_short s_row s_tape s_least s_next s_m s_mleast h a1 a2 a3 N hN
  obtain ⟨r, t_chart, t_table, t_m, e1, e2, h'⟩ := c_trees hN h a1 a2 a3
  refine ⟨s_x, s_grammar, t_chart, t_table, s_grower, s_grown, s_joined, s_short, s_row, s_tape, s_least, s_next, t_m, s_mleast, h', ?_⟩
  intro L xs kb kx v3 i1 i2 i3 x1 x2 x3
  unfold f_law_259
  rw [ck_i i1, ck_i i2, ck_i i3, x1, x2, x3, e1, b3_some, ck_i i1, ck_i i2, ck_i i3, e2, b2_some, if_pos rfl, nm_d]
theorem h_size : CaseOK RelT f_law_302 := by
  intro s_x s_grammar s_chart s_table s_grower s_grown s_joined s_short s_row s_tape s_least s_next s_m s_mleast h a1 a2 a3 N hN
  obtain ⟨r, t_chart, t_table, t_m, e1, e2, h'⟩ := c_size hN h a1 a2
  refine ⟨s_x, s_grammar, t_chart, t_table, s_grower, s_grown, s_joined, s_short, s_row, s_tape, s_least, s_next, t_m, s_mleast, h', ?_⟩
  intro L xs kb kx v3 i1 i2 i3 x1 x2 x3
  unfold f_law_302
  rw [ck_i i1, ck_i i2, x1, x2, e1, b3_some, ck_i i1, ck_i i2, e2, b2_some, if_pos rfl, nm_d]
theorem h_code : CaseOK RelT f_law_335 := by
  intro s_x s_grammar s_chart s_table s_grower s_grown s_joined s_short s_row s_tape s_least s_next s_m s_mleast h a1 a2 a3 N hN
  obtain ⟨r, t_chart, t_table, t_least, t_m, e1, e2, h'⟩ := c_code (ll := s_least) hN h a1 a2 a3
  refine ⟨s_x, s_grammar, t_chart, t_table, s_grower, s_grown, s_joined, s_short, s_row, s_tape, t_least, s_next, t_m, s_mleast, h', ?_⟩
  intro L xs kb kx v3 i1 i2 i3 x1 x2 x3
  unfold f_law_335
  rw [ck_i i1, ck_i i2, ck_i i3, x1, x2, x3, e1, b4_some, ck_i i1, ck_i i2, ck_i i3, e2, b2_some, if_pos rfl, nm_d]
theorem h_stretches : CaseOK RelT f_law_378 := by
  intro s_x s_grammar s_chart s_table s_grower s_grown s_joined s_short s_row s_tape s_least s_next s_m s_mleast h a1 a2 a3 N hN
  obtain ⟨r, t_chart, t_table, t_m, e1, e2, h'⟩ := c_stretches hN h a1 a2
  refine ⟨s_x, s_grammar, t_chart, t_table, s_grower, s_grown, s_joined, s_short, s_row, s_tape, s_least, s_next, t_m, s_mleast, h', ?_⟩
  intro L xs kb kx v3 i1 i2 i3 x1 x2 x3
  unfold f_law_378
  rw [ck_i i1, ck_i i2, x1, x2, e1, b3_some, ck_i i1, ck_i i2, e2, b2_some, if_pos rfl, nm_d]
theorem h_type : CaseOK RelT f_law_411 := by
  intro s_x s_grammar s_chart s_table s_grower s_grown s_joined s_short s_row s_tape s_least s_next s_m s_mleast h a1 a2 a3 N hN
  obtain ⟨r, t_tape, t_m, e1, e2, h'⟩ := c_type  h a1
  refine ⟨s_x, s_grammar, s_chart, s_table, s_grower, s_grown, s_joined, s_short, s_row, t_tape, s_least, s_next, t_m, s_mleast, h', ?_⟩
  intro L xs kb kx v3 i1 i2 i3 x1 x2 x3
  unfold f_law_411
  rw [ck_i i1, x1, e1, b2_some, ck_i i1, e2, b2_some, if_pos rfl, nm_d]
theorem h_clear : CaseOK RelT f_law_434 := by
  intro s_x s_grammar s_chart s_table s_grower s_grown s_joined s_short s_row s_tape s_least s_next s_m s_mleast h a1 a2 a3 N hN
  obtain ⟨r, t_tape, t_m, e1, e2, h'⟩ := c_clear  h
  refine ⟨s_x, s_grammar, s_chart, s_table, s_grower, s_grown, s_joined, s_short, s_row, t_tape, s_least, s_next, t_m, s_mleast, h', ?_⟩
  intro L xs kb kx v3 i1 i2 i3 x1 x2 x3
  unfold f_law_434
  rw [e1, b2_some, e2, b2_some, if_pos rfl, nm_d]
theorem h_grow : CaseOK RelT f_law_447 := by
  intro s_x s_grammar s_chart s_table s_grower s_grown s_joined s_short s_row s_tape s_least s_next s_m s_mleast h a1 a2 a3 N hN
  obtain ⟨r, t_x, t_grower, t_grown, t_joined, t_row, t_m, e1, e2, h'⟩ := c_grow (ω := s_grower) (g := s_grown) (σ := s_joined) hN h a1
  refine ⟨t_x, s_grammar, s_chart, s_table, t_grower, t_grown, t_joined, s_short, t_row, s_tape, s_least, s_next, t_m, s_mleast, h', ?_⟩
  intro L xs kb kx v3 i1 i2 i3 x1 x2 x3
  unfold f_law_447
  rw [ck_i i1, x1, e1, b6_some, ck_i i1, e2, b2_some, if_pos rfl, nm_d]
theorem h_place : CaseOK RelT f_law_470 := by
  intro s_x s_grammar s_chart s_table s_grower s_grown s_joined s_short s_row s_tape s_least s_next s_m s_mleast h a1 a2 a3 N hN
  obtain ⟨r, t_m, e1, e2, h'⟩ := c_place  h
  refine ⟨s_x, s_grammar, s_chart, s_table, s_grower, s_grown, s_joined, s_short, s_row, s_tape, s_least, s_next, t_m, s_mleast, h', ?_⟩
  intro L xs kb kx v3 i1 i2 i3 x1 x2 x3
  unfold f_law_470
  rw [e1, b1_some, e2, b2_some, if_pos rfl, nm_d]
theorem h_shortest : CaseOK RelT f_law_483 := by
  intro s_x s_grammar s_chart s_table s_grower s_grown s_joined s_short s_row s_tape s_least s_next s_m s_mleast h a1 a2 a3 N hN
  obtain ⟨r, t_short, t_m, t_mleast, e1, e2, h'⟩ := c_shortest (σ := s_short) (ℓ := s_mleast) hN h a1
  refine ⟨s_x, s_grammar, s_chart, s_table, s_grower, s_grown, s_joined, t_short, s_row, s_tape, s_least, s_next, t_m, t_mleast, h', ?_⟩
  intro L xs kb kx v3 i1 i2 i3 x1 x2 x3
  unfold f_law_483
  rw [ck_i i1, x1, e1, b2_some, ck_i i1, e2, b3_some, if_pos rfl, nm_d]
theorem h_about : CaseOK RelT f_law_506 := by
  intro s_x s_grammar s_chart s_table s_grower s_grown s_joined s_short s_row s_tape s_least s_next s_m s_mleast h a1 a2 a3 N hN
  have h9 : 9 ≤ N := by
    have : 4000000 ≤ NB := by unfold NB; omega
    omega
  obtain ⟨r, t_m, e1, e2, h'⟩ := c_about (N := N) h9 h a1 a2
  refine ⟨s_x, s_grammar, s_chart, s_table, s_grower, s_grown, s_joined, s_short, s_row, s_tape, s_least, s_next, t_m, s_mleast, h', ?_⟩
  intro L xs kb kx v3 i1 i2 i3 x1 x2 x3
  unfold f_law_506
  rw [ck_i i1, ck_i i2, x1, x2, e1, b1_some, ck_i i1, ck_i i2, e2, b2_some, if_pos rfl, nm_d]
theorem h_symbol : CaseOK RelT f_law_539 := by
  intro s_x s_grammar s_chart s_table s_grower s_grown s_joined s_short s_row s_tape s_least s_next s_m s_mleast h a1 a2 a3 N hN
  obtain ⟨r, t_m, e1, e2, h'⟩ := c_symbol  h a1 a2
  refine ⟨s_x, s_grammar, s_chart, s_table, s_grower, s_grown, s_joined, s_short, s_row, s_tape, s_least, s_next, t_m, s_mleast, h', ?_⟩
  intro L xs kb kx v3 i1 i2 i3 x1 x2 x3
  unfold f_law_539
  rw [ck_i i1, ck_i i2, x1, x2, e1, b1_some, ck_i i1, ck_i i2, e2, b2_some, if_pos rfl, nm_d]
theorem h_count : CaseOK RelT f_law_572 := by
  intro s_x s_grammar s_chart s_table s_grower s_grown s_joined s_short s_row s_tape s_least s_next s_m s_mleast h a1 a2 a3 N hN
  obtain ⟨r, t_m, e1, e2, h'⟩ := c_count  h a1
  refine ⟨s_x, s_grammar, s_chart, s_table, s_grower, s_grown, s_joined, s_short, s_row, s_tape, s_least, s_next, t_m, s_mleast, h', ?_⟩
  intro L xs kb kx v3 i1 i2 i3 x1 x2 x3
  unfold f_law_572
  rw [ck_i i1, x1, e1, b1_some, ck_i i1, e2, b2_some, if_pos rfl, nm_d]
theorem h_check : CaseOK RelT f_law_595 := by
  intro s_x s_grammar s_chart s_table s_grower s_grown s_joined s_short s_row s_tape s_least s_next s_m s_mleast h a1 a2 a3 N hN
  obtain ⟨r, t_chart, t_table, t_grower, t_grown, t_joined, t_least, t_next, t_m, e1, e2, h'⟩ := c_check (ω := s_grower) (g := s_grown) (σ := s_joined) (ll := s_least) (nn := s_next) hN h
  refine ⟨s_x, s_grammar, t_chart, t_table, t_grower, t_grown, t_joined, s_short, s_row, s_tape, t_least, t_next, t_m, s_mleast, h', ?_⟩
  intro L xs kb kx v3 i1 i2 i3 x1 x2 x3
  unfold f_law_595
  rw [e1, b8_some, e2, b2_some, if_pos rfl, nm_d]
theorem fresh_ok : RlR (st2 (fun _ _ => 0) 0 8 (-1)) (fun _ _ => 0) (fun _ _ => 0) (fun _ _ => 0) (fun _ _ => 0) (fun _ _ => 0) (st2 (fun _ _ => 0) 0 13 (-1)) := by
  obtain ⟨G, eG⟩ : ∃ G : Gm, G = ((0, 0, 0), (fun _ => 0), (fun _ => 0), (fun _ => [])) := ⟨_, rfl⟩
  have eS : gS G = 0 := by rw [eG]; rfl
  have eV : gV G = 0 := by rw [eG]; rfl
  have eR : gR G = 0 := by rw [eG]; rfl
  have hok : GOK G := ⟨by omega, by omega, by omega, fun v hv => by omega, fun r hr => by omega⟩
  have mk : ∀ k, k ≠ 13 → st2 (fun _ _ => 0) 0 13 (-1) 0 k = 0 := fun k hk => st2_k _ _ _ hk
  have us : UsQ G (fun _ _ => 0) (gR G) [] := ⟨by simp, by simp, fun r => ⟨fun h => by simp at h, fun h => by omega⟩, rfl, fun k hk => by simp at hk⟩
  have rc : RcQ G (fun _ _ => 0) (gR G) := by
    intro s _ b hb
    constructor
    · intro h
      rw [bit_iff _ b hb] at h
      have : (0 : Int32).toBitVec.getLsbD b = false := by
        show (0#32).getLsbD b = false
        simp
      rw [this] at h
      exact absurd h (by decide)
    · rintro ⟨u, h1, h2, _⟩
      match u, h1, h2 with
      | r :: _, _, h2 =>
        have := h2 r List.mem_cons_self
        omega
  have pc : PC (fun _ _ => 0) := fun t _ => ⟨0, by omega, rfl⟩
  refine ⟨G, [], [], ⟨hok, by rw [eS]; rfl, by rw [eV]; rfl, by rw [eR]; rfl, fun v hv => by omega, fun r hr => by omega⟩, Or.inl ⟨rfl, mk 5 (by decide)⟩, ⟨rfl, by simp, fun k hk => by simp at hk⟩, by simp, ⟨rfl, by simp, fun k hk => by simp at hk⟩, by rw [st2_s, st2_s], ⟨gR G, [], by rw [eR]; rfl, Nat.le_refl _, us, rc, pc, fun _ => ⟨fun _ => [], fun _ => False, 0, rfl, by omega, by rw [eR]; rfl, us, rc, fun k hk => by omega, ⟨fun s _ i j h1 h2 => by omega, fun D' _ => ⟨fun t ht => ht.1.elim, fun t ht => ht⟩, fun t ht => ht.elim⟩, pc⟩⟩, ⟨hok, by rw [eS]; exact mk 1 (by decide), by rw [eV]; exact mk 2 (by decide), by rw [eR]; exact mk 4 (by decide), fun v hv => by omega, fun r hr => by omega⟩, ⟨mk 10 (by decide), by simp, fun k hk => by simp at hk⟩, ⟨mk 12 (by decide), by simp, fun k hk => by simp at hk⟩, fun q => absurd (mk 14 (by decide)) q⟩
/-- the pure law -/
theorem law_holds (L : Nat) (hL : L ≤ 2048) (xs : Nat → Int32) : ∃ (N : Nat) (r : Int32), law_fn N L xs = some r :=
  pure_of RelT h_sort h_variable h_begin h_put h_close h_token h_drop h_trees h_size h_code h_stretches h_type h_clear h_grow h_place h_shortest h_about h_symbol h_count h_check fresh_ok L hL xs
