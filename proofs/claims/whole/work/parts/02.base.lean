/-! GROUND ROWS. A walk's goal without its heap: Gd pc w lv st: from every heap that holds the world w (all else as at the start), with locals lv and stack st, at pc. Each row of the kit is lifted to it once. -/
def st2 (f : Nat → Nat → Int32) (a k : Nat) (x : Int32) : Nat → Nat → Int32 := fun j => if j = a then upd (f a) k x else f j
def nm {α β : Type} (x : α) (k : α → Option β) : Option β := k x
theorem nm_e' {α β : Type} {x : α} {k : α → Option β} {r : β} (h : nm x k = some r) : ∃ y, y = x ∧ k y = some r := ⟨x, rfl, h⟩
def ck {β : Type} (i : Int32) (n : Nat) (k : Option β) : Option β := if i < 0 ∨ n ≤ i.toNatClampNeg then none else k
theorem ck_e {β : Type} {i : Int32} {n : Nat} {k : Option β} {r : β} (h : ck i n k = some r) : vp_in i n ∧ k = some r := by
  unfold ck at h
  by_cases hc : i < 0 ∨ n ≤ i.toNatClampNeg
  · rw [if_pos hc] at h; cases h
  · rw [if_neg hc] at h; exact ⟨hc, h⟩
def cb {β : Type} (x : Int32) (k : Option β) : Option β := if x = 0 ∨ x = 1 then k else none
theorem cb_e {β : Type} {x : Int32} {k : Option β} {r : β} (h : cb x k = some r) : narrow .boolean (.int x) = .int x ∧ k = some r := by
  unfold cb at h
  by_cases hc : x = 0 ∨ x = 1
  · rw [if_pos hc] at h
    refine ⟨?_, h⟩
    rcases hc with rfl | rfl <;> decide
  · rw [if_neg hc] at h; cases h
theorem it_p {c : Prop} {d : Decidable c} {β : Type} {a b : Option β} {r : β} (hc : c) (h : @ite _ c d a b = some r) : a = some r := by rw [if_pos hc] at h; exact h
theorem it_n {c : Prop} {d : Decidable c} {β : Type} {a b : Option β} {r : β} (hc : ¬ c) (h : @ite _ c d a b = some r) : b = some r := by rw [if_neg hc] at h; exact h
theorem it_np {c : Prop} {d : Decidable c} {β : Type} {a b : Option β} {r : β} (hc : c) (h : @ite _ c d a b = some r) : a = some r := it_p hc h

def bd1 {α1 β : Type} (x : Option (α1)) (k : α1 → Option β) : Option β := match x with | none => none | some a1 => k a1
theorem bd1_e {α1 β : Type} {x : Option (α1)} {k : α1 → Option β} {r : β} (h : bd1 x k = some r) : ∃ a1, x = some a1 ∧ k a1 = some r := by
  cases x with
  | none => cases h
  | some z => exact ⟨z, rfl, h⟩
def bd2 {α1 α2 β : Type} (x : Option (α1 × α2)) (k : α1 → α2 → Option β) : Option β := match x with | none => none | some (a1, a2) => k a1 a2
theorem bd2_e {α1 α2 β : Type} {x : Option (α1 × α2)} {k : α1 → α2 → Option β} {r : β} (h : bd2 x k = some r) : ∃ a1 a2, x = some (a1, a2) ∧ k a1 a2 = some r := by
  cases x with
  | none => cases h
  | some z => obtain ⟨a1, a2⟩ := z; exact ⟨a1, a2, rfl, h⟩
def bd3 {α1 α2 α3 β : Type} (x : Option (α1 × α2 × α3)) (k : α1 → α2 → α3 → Option β) : Option β := match x with | none => none | some (a1, a2, a3) => k a1 a2 a3
theorem bd3_e {α1 α2 α3 β : Type} {x : Option (α1 × α2 × α3)} {k : α1 → α2 → α3 → Option β} {r : β} (h : bd3 x k = some r) : ∃ a1 a2 a3, x = some (a1, a2, a3) ∧ k a1 a2 a3 = some r := by
  cases x with
  | none => cases h
  | some z => obtain ⟨a1, a2, a3⟩ := z; exact ⟨a1, a2, a3, rfl, h⟩
def bd4 {α1 α2 α3 α4 β : Type} (x : Option (α1 × α2 × α3 × α4)) (k : α1 → α2 → α3 → α4 → Option β) : Option β := match x with | none => none | some (a1, a2, a3, a4) => k a1 a2 a3 a4
theorem bd4_e {α1 α2 α3 α4 β : Type} {x : Option (α1 × α2 × α3 × α4)} {k : α1 → α2 → α3 → α4 → Option β} {r : β} (h : bd4 x k = some r) : ∃ a1 a2 a3 a4, x = some (a1, a2, a3, a4) ∧ k a1 a2 a3 a4 = some r := by
  cases x with
  | none => cases h
  | some z => obtain ⟨a1, a2, a3, a4⟩ := z; exact ⟨a1, a2, a3, a4, rfl, h⟩
def bd5 {α1 α2 α3 α4 α5 β : Type} (x : Option (α1 × α2 × α3 × α4 × α5)) (k : α1 → α2 → α3 → α4 → α5 → Option β) : Option β := match x with | none => none | some (a1, a2, a3, a4, a5) => k a1 a2 a3 a4 a5
theorem bd5_e {α1 α2 α3 α4 α5 β : Type} {x : Option (α1 × α2 × α3 × α4 × α5)} {k : α1 → α2 → α3 → α4 → α5 → Option β} {r : β} (h : bd5 x k = some r) : ∃ a1 a2 a3 a4 a5, x = some (a1, a2, a3, a4, a5) ∧ k a1 a2 a3 a4 a5 = some r := by
  cases x with
  | none => cases h
  | some z => obtain ⟨a1, a2, a3, a4, a5⟩ := z; exact ⟨a1, a2, a3, a4, a5, rfl, h⟩
def bd6 {α1 α2 α3 α4 α5 α6 β : Type} (x : Option (α1 × α2 × α3 × α4 × α5 × α6)) (k : α1 → α2 → α3 → α4 → α5 → α6 → Option β) : Option β := match x with | none => none | some (a1, a2, a3, a4, a5, a6) => k a1 a2 a3 a4 a5 a6
theorem bd6_e {α1 α2 α3 α4 α5 α6 β : Type} {x : Option (α1 × α2 × α3 × α4 × α5 × α6)} {k : α1 → α2 → α3 → α4 → α5 → α6 → Option β} {r : β} (h : bd6 x k = some r) : ∃ a1 a2 a3 a4 a5 a6, x = some (a1, a2, a3, a4, a5, a6) ∧ k a1 a2 a3 a4 a5 a6 = some r := by
  cases x with
  | none => cases h
  | some z => obtain ⟨a1, a2, a3, a4, a5, a6⟩ := z; exact ⟨a1, a2, a3, a4, a5, a6, rfl, h⟩
def bd7 {α1 α2 α3 α4 α5 α6 α7 β : Type} (x : Option (α1 × α2 × α3 × α4 × α5 × α6 × α7)) (k : α1 → α2 → α3 → α4 → α5 → α6 → α7 → Option β) : Option β := match x with | none => none | some (a1, a2, a3, a4, a5, a6, a7) => k a1 a2 a3 a4 a5 a6 a7
theorem bd7_e {α1 α2 α3 α4 α5 α6 α7 β : Type} {x : Option (α1 × α2 × α3 × α4 × α5 × α6 × α7)} {k : α1 → α2 → α3 → α4 → α5 → α6 → α7 → Option β} {r : β} (h : bd7 x k = some r) : ∃ a1 a2 a3 a4 a5 a6 a7, x = some (a1, a2, a3, a4, a5, a6, a7) ∧ k a1 a2 a3 a4 a5 a6 a7 = some r := by
  cases x with
  | none => cases h
  | some z => obtain ⟨a1, a2, a3, a4, a5, a6, a7⟩ := z; exact ⟨a1, a2, a3, a4, a5, a6, a7, rfl, h⟩
theorem fl_get {w : List va_W} {wc : va_W} {i0 q0 : Nat} {q : Nat × va_E} (hi : w[i0]? = some wc) (he : wc[q0]? = some q) : ∃ k : Nat, w.flatten[k]? = some q := List.getElem?_of_mem (List.mem_flatten.mpr ⟨wc, List.mem_of_getElem? hi, List.mem_of_getElem? he⟩)
theorem fl_set : ∀ {w : List va_W} {wc : va_W} {i0 q0 : Nat} {q : Nat × va_E}, w[i0]? = some wc → wc[q0]? = some q → ∃ k : Nat, w.flatten[k]? = some q ∧ ∀ q', w.flatten.set k q' = (w.set i0 (wc.set q0 q')).flatten := by
  intro w
  induction w with
  | nil => intro wc i0 q0 q h; cases h
  | cons v w ih =>
    intro wc i0 q0 q hi he
    cases i0 with
    | zero =>
      have hv : v = wc := Option.some.inj hi
      subst hv
      have hlt : q0 < v.length := (List.getElem?_eq_some_iff.mp he).1
      refine ⟨q0, ?_, fun q' => ?_⟩
      · rw [List.flatten_cons, List.getElem?_append_left hlt]; exact he
      · rw [List.flatten_cons, List.set_append_left _ _ hlt]; rfl
    | succ i =>
      obtain ⟨k, h1, h2⟩ := ih (i0 := i) (wc := wc) hi he
      refine ⟨v.length + k, ?_, fun q' => ?_⟩
      · rw [List.flatten_cons, List.getElem?_append_right (Nat.le_add_right _ _), Nat.add_sub_cancel_left]; exact h1
      · rw [List.flatten_cons, List.set_append_right _ _ (Nat.le_add_right _ _), Nat.add_sub_cancel_left, h2]; rfl
def vN (w : va_W) : Prop := w.Pairwise (fun x y => x.1 ≠ y.1)
theorem vN_of {A : Nat → Prop} {w : va_W} (h : va_D A w) : vN w := by
  refine List.pairwise_iff_getElem.mpr (fun i j hi hj hij e => ?_)
  have := h.1 i j _ _ (List.getElem?_eq_getElem hi) (List.getElem?_eq_getElem hj) e
  omega
theorem vD_of {A : Nat → Prop} {w : va_W} (h : vN w) (hA : ∀ q ∈ w, A q.1) : va_D A w := by
  refine ⟨fun i j p q hi hj hpq => ?_, fun k q hk => hA q (List.mem_of_getElem? hk)⟩
  obtain ⟨hi', ei⟩ := List.getElem?_eq_some_iff.mp hi
  obtain ⟨hj', ej⟩ := List.getElem?_eq_some_iff.mp hj
  have hp := List.pairwise_iff_getElem.mp h
  rcases Nat.lt_trichotomy i j with h1 | h1 | h1
  · exact absurd (by rw [ei, ej]; exact hpq) (hp i j hi' hj' h1)
  · exact h1
  · exact absurd (by rw [ei, ej]; exact hpq.symm) (hp j i hj' hi' h1)
theorem vP_iff {D : va_G} {cl : List vw_C} {w : va_W} {H : Heap} : va_P D cl w H ↔ ∀ q ∈ w, va_at D cl q H := by
  constructor
  · intro h q hq
    obtain ⟨k, hk⟩ := List.getElem?_of_mem hq
    exact h k q hk
  · intro h k q hk
    exact h q (List.mem_of_getElem? hk)
theorem vA_iff {w : va_W} {sz a : Nat} : va_A w sz a ↔ (∃ q ∈ w, q.1 = a) ∨ sz ≤ a := by
  constructor
  · rintro (⟨k, e, hk⟩ | h)
    · exact Or.inl ⟨_, List.mem_of_getElem? hk, rfl⟩
    · exact Or.inr h
  · rintro (⟨q, hq, rfl⟩ | h)
    · obtain ⟨k, hk⟩ := List.getElem?_of_mem hq
      exact Or.inl ⟨k, q.2, hk⟩
    · exact Or.inr h
theorem vN_adr {w w1 : va_W} (h : w1.map Prod.fst = w.map Prod.fst) (hn : vN w) : vN w1 := by
  have h1 : (w.map Prod.fst).Pairwise (fun x y => x ≠ y) := List.pairwise_map.mpr hn
  rw [← h] at h1
  exact List.pairwise_map.mp h1
theorem fl_adr {w w2 : List va_W} (h : w2.map (fun c => c.map Prod.fst) = w.map (fun c => c.map Prod.fst)) : w2.flatten.map Prod.fst = w.flatten.map Prod.fst := by
  rw [List.map_flatten, List.map_flatten, h]
theorem fl_sel {w : List va_W} {cs : List va_W} {isC : List Nat} (hC : isC.map (fun i => w[i]?) = cs.map some) : ∀ q ∈ cs.flatten, ∃ i ∈ isC, ∃ c, w[i]? = some c ∧ q ∈ c := by
  intro q hq
  obtain ⟨c, hc, hqc⟩ := List.mem_flatten.mp hq
  have h1 : some c ∈ cs.map some := List.mem_map.mpr ⟨c, hc, rfl⟩
  rw [← hC] at h1
  obtain ⟨i, hi, he⟩ := List.mem_map.mp h1
  exact ⟨i, hi, c, he, hqc⟩
theorem fl_sel2 {w : List va_W} {cs : List va_W} {isC : List Nat} (hC : isC.map (fun i => w[i]?) = cs.map some) {i : Nat} (hi : i ∈ isC) {c : va_W} (hc : w[i]? = some c) : c ∈ cs := by
  have h1 : some c ∈ isC.map (fun i => w[i]?) := List.mem_map.mpr ⟨i, hi, hc⟩
  rw [hC] at h1
  obtain ⟨c', h2, h3⟩ := List.mem_map.mp h1
  cases h3
  exact h2
theorem fl_apart {w : List va_W} (hn : vN w.flatten) {i j : Nat} (hij : i ≠ j) {c c' : va_W} (hc : w[i]? = some c) (hc' : w[j]? = some c') {q q' : Nat × va_E} (hq : q ∈ c) (hq' : q' ∈ c') : q.1 ≠ q'.1 := by
  have hp := (List.pairwise_flatten.mp hn).2
  obtain ⟨hi', ei⟩ := List.getElem?_eq_some_iff.mp hc
  obtain ⟨hj', ej⟩ := List.getElem?_eq_some_iff.mp hc'
  have hp2 := List.pairwise_iff_getElem.mp hp
  rcases Nat.lt_trichotomy i j with h1 | h1 | h1
  · exact hp2 i j hi' hj' h1 q (by rw [ei]; exact hq) q' (by rw [ej]; exact hq')
  · exact absurd h1 hij
  · exact fun e => hp2 j i hj' hi' h1 q' (by rw [ej]; exact hq') q (by rw [ei]; exact hq) e.symm
theorem fl_mem {w : List va_W} {i : Nat} {c : va_W} (hc : w[i]? = some c) {q : Nat × va_E} (hq : q ∈ c) : q ∈ w.flatten := List.mem_flatten.mpr ⟨c, List.mem_of_getElem? hc, hq⟩
/-- the callee's cells are the caller's -/
theorem gd_pick {cs : List va_W} {H : Heap} {D : va_G} {cl : List vw_C} {w : List va_W} {isC : List Nat} (hP : va_P D cl w.flatten H) (hC : isC.map (fun i => w[i]?) = cs.map some) : va_P D cl cs.flatten H := by
  refine vP_iff.mpr (fun q hq => ?_)
  obtain ⟨i, -, c, hc, hqc⟩ := fl_sel hC q hq
  exact vP_iff.mp hP q (fl_mem hc hqc)
theorem gd_pickD {cs : List va_W} {A : Nat → Prop} {w : List va_W} {isC : List Nat} (hnd : va_nd isC = true) (hD : va_D A w.flatten) (hC : isC.map (fun i => w[i]?) = cs.map some) : va_D (fun _ => True) cs.flatten := by
  refine vD_of (List.pairwise_flatten.mpr ⟨fun c hc => ?_, List.pairwise_iff_getElem.mpr (fun i j hi hj hij q hq q' hq' => ?_)⟩) (fun _ _ => trivial)
  · obtain ⟨k, hk⟩ := List.getElem?_of_mem hc
    have h1 : (isC.map (fun i => w[i]?))[k]? = some (some c) := by rw [hC, List.getElem?_map, hk]; rfl
    rw [List.getElem?_map] at h1
    cases hz : isC[k]? with
    | none => rw [hz] at h1; cases h1
    | some i =>
      rw [hz] at h1
      exact (List.pairwise_flatten.mp (vN_of hD)).1 c (List.mem_of_getElem? (Option.some.inj h1))
  · have at' : ∀ (k : Nat) (hk : k < cs.length), ∃ i, isC[k]? = some i ∧ w[i]? = some cs[k] := by
      intro k hk
      have h1 : (isC.map (fun i => w[i]?))[k]? = some (some cs[k]) := by rw [hC, List.getElem?_map, List.getElem?_eq_getElem hk]; rfl
      rw [List.getElem?_map] at h1
      cases hz : isC[k]? with
      | none => rw [hz] at h1; cases h1
      | some i => rw [hz] at h1; exact ⟨i, rfl, Option.some.inj h1⟩
    obtain ⟨a, ha1, ha2⟩ := at' i hi
    obtain ⟨b, hb1, hb2⟩ := at' j hj
    have hab : a ≠ b := fun e => by
      subst e
      have := va_nd_inj isC hnd i j a ha1 hb1
      omega
    exact fl_apart (vN_of hD) hab ha2 hb2 hq hq'

section GD
variable {p : Program} {l : Launch} {e : Env} {R : Room} {s : State} {m : MethodId} {args : Array Value} {below : List Frame} {meth : Method} {c : Code} {cells slots : Nat} {Q : State → Prop}
variable {cc : ByteArray} {pc : Nat} {D : va_G} {cl : List vw_C} {tys : List (ClassId × FieldType)} {A : Nat → Prop} {nL : Nat} {own : String} {Ts : List Cond} {w : List va_W} {lv : List (Nat × Value)} {st : List Value}
/-- what is fixed through a walk -/
def gx (p : Program) (s : State) (m : MethodId) (args : Array Value) (c : Code) (cc : ByteArray) (nL : Nat) (own : String) (Ts : List Cond) (D : va_G) (cl : List vw_C) (tys : List (ClassId × FieldType)) (A : Nat → Prop) : Prop :=
  p.tables.exec = Jvm.exec ∧ c.code = cc ∧ c.maxLocals = nL ∧ s.vm.findClass own = some m.cls ∧ (∀ w ∈ Ts, w.before args s = true) ∧ va_K D cl tys s ∧ ∀ q, s.heap.size ≤ q → A q
def Gd (p : Program) (l : Launch) (e : Env) (R : Room) (s : State) (m : MethodId) (args : Array Value) (below : List Frame) (meth : Method) (c : Code) (cells slots : Nat) (Q : State → Prop) (D : va_G) (cl : List vw_C) (A : Nat → Prop) (nL : Nat) (pc : Nat) (w : List va_W) (lv : List (Nat × Value)) (st : List Value) : Prop :=
  ∀ (H : Heap) (locs : List Loc) (ls : Array Slot), va_P D cl w.flatten H → va_D A w.flatten → va_S A s.heap H locs → lv_has ls nL lv → W p l e R s m args below meth c H locs cells slots Q (F0 m pc ls st)
theorem gd_iconst (X : gx p s m args c cc nL own Ts D cl tys A) {n : Int} {v : Int32} (hdg : decode cc pc = .ok (.iconst n, 1)) (hv : Int32.ofInt n = v)
    (kk : Gd p l e R s m args below meth c cells slots Q D cl A nL (pc + 1) w lv (.int v :: st)) : Gd p l e R s m args below meth c cells slots Q D cl A nL pc w lv st := by
  intro H locs ls hP hD hS hl
  exact lv_iconst X.1 X.2.1 hdg hv (kk H locs ls hP hD hS hl)
theorem gd_bipush (X : gx p s m args c cc nL own Ts D cl tys A) {n : Int} {v : Int32} (hdg : decode cc pc = .ok (.bipush n, 2)) (hv : (Int8.ofInt n).toInt32 = v)
    (kk : Gd p l e R s m args below meth c cells slots Q D cl A nL (pc + 2) w lv (.int v :: st)) : Gd p l e R s m args below meth c cells slots Q D cl A nL pc w lv st := by
  intro H locs ls hP hD hS hl
  exact lv_bipush X.1 X.2.1 hdg hv (kk H locs ls hP hD hS hl)
theorem gd_sipush (X : gx p s m args c cc nL own Ts D cl tys A) {n : Int} {v : Int32} (hdg : decode cc pc = .ok (.sipush n, 3)) (hv : (Int16.ofInt n).toInt32 = v)
    (kk : Gd p l e R s m args below meth c cells slots Q D cl A nL (pc + 3) w lv (.int v :: st)) : Gd p l e R s m args below meth c cells slots Q D cl A nL pc w lv st := by
  intro H locs ls hP hD hS hl
  exact lv_sipush X.1 X.2.1 hdg hv (kk H locs ls hP hD hS hl)
theorem gd_iload_n (X : gx p s m args c cc nL own Ts D cl tys A) {k : Fin 4} {x : Int32} (hdg : decode cc pc = .ok (.iload_n k, 1)) (j : Nat) (hj : lv[j]? = some ((k : Nat), .int x))
    (kk : Gd p l e R s m args below meth c cells slots Q D cl A nL (pc + 1) w lv (.int x :: st)) : Gd p l e R s m args below meth c cells slots Q D cl A nL pc w lv st := by
  intro H locs ls hP hD hS hl
  exact lv_iload_n X.1 X.2.1 hdg rfl (lv_at hl j hj) (kk H locs ls hP hD hS hl)
theorem gd_iload (X : gx p s m args c cc nL own Ts D cl tys A) {i : Nat} {x : Int32} (hdg : decode cc pc = .ok (.iload i, 2)) (j : Nat) (hj : lv[j]? = some (i, .int x))
    (kk : Gd p l e R s m args below meth c cells slots Q D cl A nL (pc + 2) w lv (.int x :: st)) : Gd p l e R s m args below meth c cells slots Q D cl A nL pc w lv st := by
  intro H locs ls hP hD hS hl
  exact lv_iload X.1 X.2.1 hdg (lv_at hl j hj) (kk H locs ls hP hD hS hl)
theorem gd_istore_n (X : gx p s m args c cc nL own Ts D cl tys A) {k : Fin 4} {i : Nat} {x : Int32} {lv' : List (Nat × Value)} (hdg : decode cc pc = .ok (.istore_n k, 1)) (hi : (k : Nat) = i) (hn : i < nL) (hlv : (i, Value.int x) :: lv.filter (fun q => !(q.1 == i) && !(q.1 + 1 == i && q.2.category == 2)) = lv')
    (kk : Gd p l e R s m args below meth c cells slots Q D cl A nL (pc + 1) w lv' st) : Gd p l e R s m args below meth c cells slots Q D cl A nL pc w lv (.int x :: st) := by
  intro H locs ls hP hD hS hl
  exact lv_istore_n X.1 X.2.1 hdg hi hl hn hlv (fun ls hl => kk H locs ls hP hD hS hl)
theorem gd_istore (X : gx p s m args c cc nL own Ts D cl tys A) {i : Nat} {x : Int32} {lv' : List (Nat × Value)} (hdg : decode cc pc = .ok (.istore i, 2)) (hn : i < nL) (hlv : (i, Value.int x) :: lv.filter (fun q => !(q.1 == i) && !(q.1 + 1 == i && q.2.category == 2)) = lv')
    (kk : Gd p l e R s m args below meth c cells slots Q D cl A nL (pc + 2) w lv' st) : Gd p l e R s m args below meth c cells slots Q D cl A nL pc w lv (.int x :: st) := by
  intro H locs ls hP hD hS hl
  exact lv_istore X.1 X.2.1 hdg hl hn hlv (fun ls hl => kk H locs ls hP hD hS hl)
theorem gd_aload_n (X : gx p s m args c cc nL own Ts D cl tys A) {k : Fin 4} {x : Nat} (hdg : decode cc pc = .ok (.aload_n k, 1)) (j : Nat) (hj : lv[j]? = some ((k : Nat), .ref x))
    (kk : Gd p l e R s m args below meth c cells slots Q D cl A nL (pc + 1) w lv (.ref x :: st)) : Gd p l e R s m args below meth c cells slots Q D cl A nL pc w lv st := by
  intro H locs ls hP hD hS hl
  exact lv_aload_n X.1 X.2.1 hdg rfl (lv_at hl j hj) (kk H locs ls hP hD hS hl)
theorem gd_aload (X : gx p s m args c cc nL own Ts D cl tys A) {i : Nat} {x : Nat} (hdg : decode cc pc = .ok (.aload i, 2)) (j : Nat) (hj : lv[j]? = some (i, .ref x))
    (kk : Gd p l e R s m args below meth c cells slots Q D cl A nL (pc + 2) w lv (.ref x :: st)) : Gd p l e R s m args below meth c cells slots Q D cl A nL pc w lv st := by
  intro H locs ls hP hD hS hl
  exact lv_aload X.1 X.2.1 hdg (lv_at hl j hj) (kk H locs ls hP hD hS hl)
theorem gd_astore_n (X : gx p s m args c cc nL own Ts D cl tys A) {k : Fin 4} {i : Nat} {x : Nat} {lv' : List (Nat × Value)} (hdg : decode cc pc = .ok (.astore_n k, 1)) (hi : (k : Nat) = i) (hn : i < nL) (hlv : (i, Value.ref x) :: lv.filter (fun q => !(q.1 == i) && !(q.1 + 1 == i && q.2.category == 2)) = lv')
    (kk : Gd p l e R s m args below meth c cells slots Q D cl A nL (pc + 1) w lv' st) : Gd p l e R s m args below meth c cells slots Q D cl A nL pc w lv (.ref x :: st) := by
  intro H locs ls hP hD hS hl
  exact lv_astore_n X.1 X.2.1 hdg hi hl hn hlv (fun ls hl => kk H locs ls hP hD hS hl)
theorem gd_astore (X : gx p s m args c cc nL own Ts D cl tys A) {i : Nat} {x : Nat} {lv' : List (Nat × Value)} (hdg : decode cc pc = .ok (.astore i, 2)) (hn : i < nL) (hlv : (i, Value.ref x) :: lv.filter (fun q => !(q.1 == i) && !(q.1 + 1 == i && q.2.category == 2)) = lv')
    (kk : Gd p l e R s m args below meth c cells slots Q D cl A nL (pc + 2) w lv' st) : Gd p l e R s m args below meth c cells slots Q D cl A nL pc w lv (.ref x :: st) := by
  intro H locs ls hP hD hS hl
  exact lv_astore X.1 X.2.1 hdg hl hn hlv (fun ls hl => kk H locs ls hP hD hS hl)
theorem gd_lload_n (X : gx p s m args c cc nL own Ts D cl tys A) {k : Fin 4} {x : Int64} (hdg : decode cc pc = .ok (.lload_n k, 1)) (j : Nat) (hj : lv[j]? = some ((k : Nat), .long x))
    (kk : Gd p l e R s m args below meth c cells slots Q D cl A nL (pc + 1) w lv (.long x :: st)) : Gd p l e R s m args below meth c cells slots Q D cl A nL pc w lv st := by
  intro H locs ls hP hD hS hl
  exact lv_lload_n X.1 X.2.1 hdg rfl (lv_at hl j hj) (kk H locs ls hP hD hS hl)
theorem gd_lload (X : gx p s m args c cc nL own Ts D cl tys A) {i : Nat} {x : Int64} (hdg : decode cc pc = .ok (.lload i, 2)) (j : Nat) (hj : lv[j]? = some (i, .long x))
    (kk : Gd p l e R s m args below meth c cells slots Q D cl A nL (pc + 2) w lv (.long x :: st)) : Gd p l e R s m args below meth c cells slots Q D cl A nL pc w lv st := by
  intro H locs ls hP hD hS hl
  exact lv_lload X.1 X.2.1 hdg (lv_at hl j hj) (kk H locs ls hP hD hS hl)
theorem gd_iinc (X : gx p s m args c cc nL own Ts D cl tys A) {i k : Nat} {n : Int} {x v : Int32} {lv' : List (Nat × Value)} (hdg : decode cc pc = .ok (.iinc i n, 3)) (hk : lv[k]? = some (i, .int x)) (hv : x + Int32.ofInt n = v) (hn : i < nL) (hlv : (i, Value.int v) :: lv.filter (fun q => !(q.1 == i) && !(q.1 + 1 == i && q.2.category == 2)) = lv')
    (kk : Gd p l e R s m args below meth c cells slots Q D cl A nL (pc + 3) w lv' st) : Gd p l e R s m args below meth c cells slots Q D cl A nL pc w lv st := by
  intro H locs ls hP hD hS hl
  exact lv_iinc X.1 X.2.1 hdg hl hk hv hn hlv (fun ls hl => kk H locs ls hP hD hS hl)
theorem gd_iadd (X : gx p s m args c cc nL own Ts D cl tys A) {x y : Int32} (hdg : decode cc pc = .ok (.iadd, 1))
    (kk : Gd p l e R s m args below meth c cells slots Q D cl A nL (pc + 1) w lv (.int (x + y) :: st)) : Gd p l e R s m args below meth c cells slots Q D cl A nL pc w lv (.int y :: .int x :: st) := by
  intro H locs ls hP hD hS hl
  exact lv_iadd X.1 X.2.1 hdg (kk H locs ls hP hD hS hl)
theorem gd_isub (X : gx p s m args c cc nL own Ts D cl tys A) {x y : Int32} (hdg : decode cc pc = .ok (.isub, 1))
    (kk : Gd p l e R s m args below meth c cells slots Q D cl A nL (pc + 1) w lv (.int (x - y) :: st)) : Gd p l e R s m args below meth c cells slots Q D cl A nL pc w lv (.int y :: .int x :: st) := by
  intro H locs ls hP hD hS hl
  exact lv_isub X.1 X.2.1 hdg (kk H locs ls hP hD hS hl)
theorem gd_imul (X : gx p s m args c cc nL own Ts D cl tys A) {x y : Int32} (hdg : decode cc pc = .ok (.imul, 1))
    (kk : Gd p l e R s m args below meth c cells slots Q D cl A nL (pc + 1) w lv (.int (x * y) :: st)) : Gd p l e R s m args below meth c cells slots Q D cl A nL pc w lv (.int y :: .int x :: st) := by
  intro H locs ls hP hD hS hl
  exact lv_imul X.1 X.2.1 hdg (kk H locs ls hP hD hS hl)
theorem gd_iand (X : gx p s m args c cc nL own Ts D cl tys A) {x y : Int32} (hdg : decode cc pc = .ok (.iand, 1))
    (kk : Gd p l e R s m args below meth c cells slots Q D cl A nL (pc + 1) w lv (.int (x &&& y) :: st)) : Gd p l e R s m args below meth c cells slots Q D cl A nL pc w lv (.int y :: .int x :: st) := by
  intro H locs ls hP hD hS hl
  exact lv_iand X.1 X.2.1 hdg (kk H locs ls hP hD hS hl)
theorem gd_ior (X : gx p s m args c cc nL own Ts D cl tys A) {x y : Int32} (hdg : decode cc pc = .ok (.ior, 1))
    (kk : Gd p l e R s m args below meth c cells slots Q D cl A nL (pc + 1) w lv (.int (x ||| y) :: st)) : Gd p l e R s m args below meth c cells slots Q D cl A nL pc w lv (.int y :: .int x :: st) := by
  intro H locs ls hP hD hS hl
  exact lv_ior X.1 X.2.1 hdg (kk H locs ls hP hD hS hl)
theorem gd_ixor (X : gx p s m args c cc nL own Ts D cl tys A) {x y : Int32} (hdg : decode cc pc = .ok (.ixor, 1))
    (kk : Gd p l e R s m args below meth c cells slots Q D cl A nL (pc + 1) w lv (.int (x ^^^ y) :: st)) : Gd p l e R s m args below meth c cells slots Q D cl A nL pc w lv (.int y :: .int x :: st) := by
  intro H locs ls hP hD hS hl
  exact lv_ixor X.1 X.2.1 hdg (kk H locs ls hP hD hS hl)
theorem gd_ishl (X : gx p s m args c cc nL own Ts D cl tys A) {x y : Int32} (hdg : decode cc pc = .ok (.ishl, 1))
    (kk : Gd p l e R s m args below meth c cells slots Q D cl A nL (pc + 1) w lv (.int (x <<< (y &&& 31)) :: st)) : Gd p l e R s m args below meth c cells slots Q D cl A nL pc w lv (.int y :: .int x :: st) := by
  intro H locs ls hP hD hS hl
  exact lv_ishl X.1 X.2.1 hdg (kk H locs ls hP hD hS hl)
theorem gd_ishr (X : gx p s m args c cc nL own Ts D cl tys A) {x y : Int32} (hdg : decode cc pc = .ok (.ishr, 1))
    (kk : Gd p l e R s m args below meth c cells slots Q D cl A nL (pc + 1) w lv (.int (x >>> (y &&& 31)) :: st)) : Gd p l e R s m args below meth c cells slots Q D cl A nL pc w lv (.int y :: .int x :: st) := by
  intro H locs ls hP hD hS hl
  exact lv_ishr X.1 X.2.1 hdg (kk H locs ls hP hD hS hl)
theorem gd_ineg (X : gx p s m args c cc nL own Ts D cl tys A) {x : Int32} (hdg : decode cc pc = .ok (.ineg, 1))
    (kk : Gd p l e R s m args below meth c cells slots Q D cl A nL (pc + 1) w lv (.int (-x) :: st)) : Gd p l e R s m args below meth c cells slots Q D cl A nL pc w lv (.int x :: st) := by
  intro H locs ls hP hD hS hl
  exact lv_ineg X.1 X.2.1 hdg (kk H locs ls hP hD hS hl)
theorem gd_idiv (X : gx p s m args c cc nL own Ts D cl tys A) {x y : Int32} (hdg : decode cc pc = .ok (.idiv, 1)) (hne : ¬ y = 0)
    (kk : Gd p l e R s m args below meth c cells slots Q D cl A nL (pc + 1) w lv (.int (x / y) :: st)) : Gd p l e R s m args below meth c cells slots Q D cl A nL pc w lv (.int y :: .int x :: st) := by
  intro H locs ls hP hD hS hl
  exact lv_idiv X.1 X.2.1 hdg hne (kk H locs ls hP hD hS hl)
theorem gd_i2l (X : gx p s m args c cc nL own Ts D cl tys A) {x : Int32} (hdg : decode cc pc = .ok (.i2l, 1))
    (kk : Gd p l e R s m args below meth c cells slots Q D cl A nL (pc + 1) w lv (.long x.toInt64 :: st)) : Gd p l e R s m args below meth c cells slots Q D cl A nL pc w lv (.int x :: st) := by
  intro H locs ls hP hD hS hl
  exact lv_i2l X.1 X.2.1 hdg rfl (kk H locs ls hP hD hS hl)
theorem gd_l2i (X : gx p s m args c cc nL own Ts D cl tys A) {x : Int64} (hdg : decode cc pc = .ok (.l2i, 1))
    (kk : Gd p l e R s m args below meth c cells slots Q D cl A nL (pc + 1) w lv (.int x.toInt32 :: st)) : Gd p l e R s m args below meth c cells slots Q D cl A nL pc w lv (.long x :: st) := by
  intro H locs ls hP hD hS hl
  exact lv_l2i X.1 X.2.1 hdg rfl (kk H locs ls hP hD hS hl)
theorem gd_ladd (X : gx p s m args c cc nL own Ts D cl tys A) {x y : Int64} (hdg : decode cc pc = .ok (.ladd, 1))
    (kk : Gd p l e R s m args below meth c cells slots Q D cl A nL (pc + 1) w lv (.long (x + y) :: st)) : Gd p l e R s m args below meth c cells slots Q D cl A nL pc w lv (.long y :: .long x :: st) := by
  intro H locs ls hP hD hS hl
  exact lv_ladd X.1 X.2.1 hdg (kk H locs ls hP hD hS hl)
theorem gd_lsub (X : gx p s m args c cc nL own Ts D cl tys A) {x y : Int64} (hdg : decode cc pc = .ok (.lsub, 1))
    (kk : Gd p l e R s m args below meth c cells slots Q D cl A nL (pc + 1) w lv (.long (x - y) :: st)) : Gd p l e R s m args below meth c cells slots Q D cl A nL pc w lv (.long y :: .long x :: st) := by
  intro H locs ls hP hD hS hl
  exact lv_lsub X.1 X.2.1 hdg (kk H locs ls hP hD hS hl)
theorem gd_lmul (X : gx p s m args c cc nL own Ts D cl tys A) {x y : Int64} (hdg : decode cc pc = .ok (.lmul, 1))
    (kk : Gd p l e R s m args below meth c cells slots Q D cl A nL (pc + 1) w lv (.long (x * y) :: st)) : Gd p l e R s m args below meth c cells slots Q D cl A nL pc w lv (.long y :: .long x :: st) := by
  intro H locs ls hP hD hS hl
  exact lv_lmul X.1 X.2.1 hdg (kk H locs ls hP hD hS hl)
theorem gd_lcmp (X : gx p s m args c cc nL own Ts D cl tys A) {x y : Int64} (hdg : decode cc pc = .ok (.lcmp, 1))
    (kk : Gd p l e R s m args below meth c cells slots Q D cl A nL (pc + 1) w lv (.int (lg_cmp x y) :: st)) : Gd p l e R s m args below meth c cells slots Q D cl A nL pc w lv (.long y :: .long x :: st) := by
  intro H locs ls hP hD hS hl
  exact W.lcmp X.1 X.2.1 hdg (kk H locs ls hP hD hS hl)
theorem gd_dup (X : gx p s m args c cc nL own Ts D cl tys A) {va : Value} (hdg : decode cc pc = .ok (.dup, 1)) (h1 : va.category = 1)
    (kk : Gd p l e R s m args below meth c cells slots Q D cl A nL (pc + 1) w lv (va :: va :: st)) : Gd p l e R s m args below meth c cells slots Q D cl A nL pc w lv (va :: st) := by
  intro H locs ls hP hD hS hl
  exact lv_dup X.1 X.2.1 hdg h1 (kk H locs ls hP hD hS hl)
theorem gd_pop (X : gx p s m args c cc nL own Ts D cl tys A) {va : Value} (hdg : decode cc pc = .ok (.pop, 1)) (h1 : va.category = 1)
    (kk : Gd p l e R s m args below meth c cells slots Q D cl A nL (pc + 1) w lv st) : Gd p l e R s m args below meth c cells slots Q D cl A nL pc w lv (va :: st) := by
  intro H locs ls hP hD hS hl
  exact lv_pop X.1 X.2.1 hdg h1 (kk H locs ls hP hD hS hl)
theorem gd_dup_x1 (X : gx p s m args c cc nL own Ts D cl tys A) {va vb : Value} (hdg : decode cc pc = .ok (.dup_x1, 1)) (h1 : va.category = 1) (h2 : vb.category = 1)
    (kk : Gd p l e R s m args below meth c cells slots Q D cl A nL (pc + 1) w lv (va :: vb :: va :: st)) : Gd p l e R s m args below meth c cells slots Q D cl A nL pc w lv (va :: vb :: st) := by
  intro H locs ls hP hD hS hl
  exact lv_dup_x1 X.1 X.2.1 hdg h1 h2 (kk H locs ls hP hD hS hl)
theorem gd_dup_x2 (X : gx p s m args c cc nL own Ts D cl tys A) {va vb vd : Value} (hdg : decode cc pc = .ok (.dup_x2, 1)) (h1 : va.category = 1) (h2 : vb.category = 1) (h3 : vd.category = 1)
    (kk : Gd p l e R s m args below meth c cells slots Q D cl A nL (pc + 1) w lv (va :: vb :: vd :: va :: st)) : Gd p l e R s m args below meth c cells slots Q D cl A nL pc w lv (va :: vb :: vd :: st) := by
  intro H locs ls hP hD hS hl
  exact lv_dup_x2 X.1 X.2.1 hdg h1 h2 h3 (kk H locs ls hP hD hS hl)
theorem gd_dup2 (X : gx p s m args c cc nL own Ts D cl tys A) {va vb : Value} (hdg : decode cc pc = .ok (.dup2, 1)) (h1 : va.category = 1) (h2 : vb.category = 1)
    (kk : Gd p l e R s m args below meth c cells slots Q D cl A nL (pc + 1) w lv (va :: vb :: va :: vb :: st)) : Gd p l e R s m args below meth c cells slots Q D cl A nL pc w lv (va :: vb :: st) := by
  intro H locs ls hP hD hS hl
  exact lv_dup2_11 X.1 X.2.1 hdg h1 h2 (kk H locs ls hP hD hS hl)
theorem gd_goto (X : gx p s m args c cc nL own Ts D cl tys A) {off : Int} {tgt : Nat} (hdg : decode cc pc = .ok (.goto off, 3)) (ht : (pc : Int) + off = (tgt : Int))
    (kk : Gd p l e R s m args below meth c cells slots Q D cl A nL tgt w lv st) : Gd p l e R s m args below meth c cells slots Q D cl A nL pc w lv st := by
  intro H locs ls hP hD hS hl
  exact lv_goto X.1 X.2.1 hdg ht (kk H locs ls hP hD hS hl)
theorem gd_if_eq (X : gx p s m args c cc nL own Ts D cl tys A) {x : Int32} {off : Int} {tgt : Nat} (hdg : decode cc pc = .ok (.ifCond .eq off, 3)) (ht : (pc : Int) + off = (tgt : Int))
    (kt : x = 0 → Gd p l e R s m args below meth c cells slots Q D cl A nL tgt w lv st) (kf : ¬ x = 0 → Gd p l e R s m args below meth c cells slots Q D cl A nL (pc + 3) w lv st) : Gd p l e R s m args below meth c cells slots Q D cl A nL pc w lv (.int x :: st) := by
  intro H locs ls hP hD hS hl
  exact lv_if_eq X.1 X.2.1 hdg ht (fun q => kt q H locs ls hP hD hS hl) (fun q => kf q H locs ls hP hD hS hl)
theorem gd_icmp_eq (X : gx p s m args c cc nL own Ts D cl tys A) {x y : Int32} {off : Int} {tgt : Nat} (hdg : decode cc pc = .ok (.if_icmp .eq off, 3)) (ht : (pc : Int) + off = (tgt : Int))
    (kt : x = y → Gd p l e R s m args below meth c cells slots Q D cl A nL tgt w lv st) (kf : ¬ x = y → Gd p l e R s m args below meth c cells slots Q D cl A nL (pc + 3) w lv st) : Gd p l e R s m args below meth c cells slots Q D cl A nL pc w lv (.int y :: .int x :: st) := by
  intro H locs ls hP hD hS hl
  exact lv_icmp_eq X.1 X.2.1 hdg ht (fun q => kt q H locs ls hP hD hS hl) (fun q => kf q H locs ls hP hD hS hl)
theorem gd_if_ne (X : gx p s m args c cc nL own Ts D cl tys A) {x : Int32} {off : Int} {tgt : Nat} (hdg : decode cc pc = .ok (.ifCond .ne off, 3)) (ht : (pc : Int) + off = (tgt : Int))
    (kt : ¬ x = 0 → Gd p l e R s m args below meth c cells slots Q D cl A nL tgt w lv st) (kf : x = 0 → Gd p l e R s m args below meth c cells slots Q D cl A nL (pc + 3) w lv st) : Gd p l e R s m args below meth c cells slots Q D cl A nL pc w lv (.int x :: st) := by
  intro H locs ls hP hD hS hl
  exact lv_if_ne X.1 X.2.1 hdg ht (fun q => kt q H locs ls hP hD hS hl) (fun q => kf q H locs ls hP hD hS hl)
theorem gd_icmp_ne (X : gx p s m args c cc nL own Ts D cl tys A) {x y : Int32} {off : Int} {tgt : Nat} (hdg : decode cc pc = .ok (.if_icmp .ne off, 3)) (ht : (pc : Int) + off = (tgt : Int))
    (kt : ¬ x = y → Gd p l e R s m args below meth c cells slots Q D cl A nL tgt w lv st) (kf : x = y → Gd p l e R s m args below meth c cells slots Q D cl A nL (pc + 3) w lv st) : Gd p l e R s m args below meth c cells slots Q D cl A nL pc w lv (.int y :: .int x :: st) := by
  intro H locs ls hP hD hS hl
  exact lv_icmp_ne X.1 X.2.1 hdg ht (fun q => kt q H locs ls hP hD hS hl) (fun q => kf q H locs ls hP hD hS hl)
theorem gd_if_lt (X : gx p s m args c cc nL own Ts D cl tys A) {x : Int32} {off : Int} {tgt : Nat} (hdg : decode cc pc = .ok (.ifCond .lt off, 3)) (ht : (pc : Int) + off = (tgt : Int))
    (kt : x < 0 → Gd p l e R s m args below meth c cells slots Q D cl A nL tgt w lv st) (kf : ¬ x < 0 → Gd p l e R s m args below meth c cells slots Q D cl A nL (pc + 3) w lv st) : Gd p l e R s m args below meth c cells slots Q D cl A nL pc w lv (.int x :: st) := by
  intro H locs ls hP hD hS hl
  exact lv_if_lt X.1 X.2.1 hdg ht (fun q => kt q H locs ls hP hD hS hl) (fun q => kf q H locs ls hP hD hS hl)
theorem gd_icmp_lt (X : gx p s m args c cc nL own Ts D cl tys A) {x y : Int32} {off : Int} {tgt : Nat} (hdg : decode cc pc = .ok (.if_icmp .lt off, 3)) (ht : (pc : Int) + off = (tgt : Int))
    (kt : x < y → Gd p l e R s m args below meth c cells slots Q D cl A nL tgt w lv st) (kf : ¬ x < y → Gd p l e R s m args below meth c cells slots Q D cl A nL (pc + 3) w lv st) : Gd p l e R s m args below meth c cells slots Q D cl A nL pc w lv (.int y :: .int x :: st) := by
  intro H locs ls hP hD hS hl
  exact lv_icmp_lt X.1 X.2.1 hdg ht (fun q => kt q H locs ls hP hD hS hl) (fun q => kf q H locs ls hP hD hS hl)
theorem gd_if_ge (X : gx p s m args c cc nL own Ts D cl tys A) {x : Int32} {off : Int} {tgt : Nat} (hdg : decode cc pc = .ok (.ifCond .ge off, 3)) (ht : (pc : Int) + off = (tgt : Int))
    (kt : 0 ≤ x → Gd p l e R s m args below meth c cells slots Q D cl A nL tgt w lv st) (kf : ¬ 0 ≤ x → Gd p l e R s m args below meth c cells slots Q D cl A nL (pc + 3) w lv st) : Gd p l e R s m args below meth c cells slots Q D cl A nL pc w lv (.int x :: st) := by
  intro H locs ls hP hD hS hl
  exact lv_if_ge X.1 X.2.1 hdg ht (fun q => kt q H locs ls hP hD hS hl) (fun q => kf q H locs ls hP hD hS hl)
theorem gd_icmp_ge (X : gx p s m args c cc nL own Ts D cl tys A) {x y : Int32} {off : Int} {tgt : Nat} (hdg : decode cc pc = .ok (.if_icmp .ge off, 3)) (ht : (pc : Int) + off = (tgt : Int))
    (kt : y ≤ x → Gd p l e R s m args below meth c cells slots Q D cl A nL tgt w lv st) (kf : ¬ y ≤ x → Gd p l e R s m args below meth c cells slots Q D cl A nL (pc + 3) w lv st) : Gd p l e R s m args below meth c cells slots Q D cl A nL pc w lv (.int y :: .int x :: st) := by
  intro H locs ls hP hD hS hl
  exact lv_icmp_ge X.1 X.2.1 hdg ht (fun q => kt q H locs ls hP hD hS hl) (fun q => kf q H locs ls hP hD hS hl)
theorem gd_if_gt (X : gx p s m args c cc nL own Ts D cl tys A) {x : Int32} {off : Int} {tgt : Nat} (hdg : decode cc pc = .ok (.ifCond .gt off, 3)) (ht : (pc : Int) + off = (tgt : Int))
    (kt : 0 < x → Gd p l e R s m args below meth c cells slots Q D cl A nL tgt w lv st) (kf : ¬ 0 < x → Gd p l e R s m args below meth c cells slots Q D cl A nL (pc + 3) w lv st) : Gd p l e R s m args below meth c cells slots Q D cl A nL pc w lv (.int x :: st) := by
  intro H locs ls hP hD hS hl
  exact lv_if_gt X.1 X.2.1 hdg ht (fun q => kt q H locs ls hP hD hS hl) (fun q => kf q H locs ls hP hD hS hl)
theorem gd_icmp_gt (X : gx p s m args c cc nL own Ts D cl tys A) {x y : Int32} {off : Int} {tgt : Nat} (hdg : decode cc pc = .ok (.if_icmp .gt off, 3)) (ht : (pc : Int) + off = (tgt : Int))
    (kt : y < x → Gd p l e R s m args below meth c cells slots Q D cl A nL tgt w lv st) (kf : ¬ y < x → Gd p l e R s m args below meth c cells slots Q D cl A nL (pc + 3) w lv st) : Gd p l e R s m args below meth c cells slots Q D cl A nL pc w lv (.int y :: .int x :: st) := by
  intro H locs ls hP hD hS hl
  exact lv_icmp_gt X.1 X.2.1 hdg ht (fun q => kt q H locs ls hP hD hS hl) (fun q => kf q H locs ls hP hD hS hl)
theorem gd_if_le (X : gx p s m args c cc nL own Ts D cl tys A) {x : Int32} {off : Int} {tgt : Nat} (hdg : decode cc pc = .ok (.ifCond .le off, 3)) (ht : (pc : Int) + off = (tgt : Int))
    (kt : x ≤ 0 → Gd p l e R s m args below meth c cells slots Q D cl A nL tgt w lv st) (kf : ¬ x ≤ 0 → Gd p l e R s m args below meth c cells slots Q D cl A nL (pc + 3) w lv st) : Gd p l e R s m args below meth c cells slots Q D cl A nL pc w lv (.int x :: st) := by
  intro H locs ls hP hD hS hl
  exact lv_if_le X.1 X.2.1 hdg ht (fun q => kt q H locs ls hP hD hS hl) (fun q => kf q H locs ls hP hD hS hl)
theorem gd_icmp_le (X : gx p s m args c cc nL own Ts D cl tys A) {x y : Int32} {off : Int} {tgt : Nat} (hdg : decode cc pc = .ok (.if_icmp .le off, 3)) (ht : (pc : Int) + off = (tgt : Int))
    (kt : x ≤ y → Gd p l e R s m args below meth c cells slots Q D cl A nL tgt w lv st) (kf : ¬ x ≤ y → Gd p l e R s m args below meth c cells slots Q D cl A nL (pc + 3) w lv st) : Gd p l e R s m args below meth c cells slots Q D cl A nL pc w lv (.int y :: .int x :: st) := by
  intro H locs ls hP hD hS hl
  exact lv_icmp_le X.1 X.2.1 hdg ht (fun q => kt q H locs ls hP hD hS hl) (fun q => kf q H locs ls hP hD hS hl)
theorem gd_topi {x y : Int32} (hxy : y = x) (kk : Gd p l e R s m args below meth c cells slots Q D cl A nL pc w lv (.int y :: st)) : Gd p l e R s m args below meth c cells slots Q D cl A nL pc w lv (.int x :: st) := by
  rw [← hxy]; exact kk
theorem gd_loc {lv' : List (Nat × Value)} (ks : List Nat) (hk : lv_pick lv ks = lv') (kk : Gd p l e R s m args below meth c cells slots Q D cl A nL pc w lv' st) : Gd p l e R s m args below meth c cells slots Q D cl A nL pc w lv st := by
  intro H locs ls hP hD hS hl
  exact kk H locs ls hP hD hS (lv_sub hl ks hk)
theorem gd_get (X : gx p s m args c cc nL own Ts D cl tys A) {a ci index N : Nat} {ref C : String} {T : u_T} {fs : List Value} {v : Value} {wc : va_W} (i0 q0 : Nat) (hi0 : w[i0]? = some wc) (he : wc[q0]? = some (a, .inr (ci, fs))) (hc : cl[ci]? = some (C, T, N)) (hin : ∀ w ∈ u_ws C T N, w ∈ Ts) (k : Nat) (hk : k < N) (hlink : Cond.fieldLink own index ref (T k).2.1 (T k).2.2.1 ∈ Ts) (href : (T k).1 = ref) (hv : fs[k]? = some v) (hdg : decode cc pc = .ok (.getfield index, 3))
    (kk : Gd p l e R s m args below meth c cells slots Q D cl A nL (pc + 3) w lv (v :: st)) : Gd p l e R s m args below meth c cells slots Q D cl A nL pc w lv (.ref a :: st) := by
  intro H locs ls hP hD hS hl
  obtain ⟨k0, hk0⟩ := fl_get hi0 he
  exact va_get (own := own) X.1 X.2.1 X.2.2.2.2.1 hin X.2.2.2.1 X.2.2.2.2.2.1 hP k0 hk0 hc k hk (X.2.2.2.2.1 _ hlink) (fun _ h => by rw [← href]; exact h) hv hdg (kk H locs ls hP hD hS hl)
theorem gd_put (X : gx p s m args c cc nL own Ts D cl tys A) {a ci index N : Nat} {ref C : String} {T : u_T} {fs : List Value} {v : Value} {ty : FieldType} {w' : List va_W} {wc : va_W} (i0 q0 : Nat) (hi0 : w[i0]? = some wc) (he : wc[q0]? = some (a, .inr (ci, fs))) (hc : cl[ci]? = some (C, T, N)) (hin : ∀ w ∈ u_ws C T N, w ∈ Ts) (ty0 : Nat → FieldType) (hty : ∀ k, k < N → parseFieldDescriptor (T k).2.2.1 = some (ty0 k)) (hnm : ∀ a, a < N → ∀ b, b < N → a ≠ b → (T a).2.1 ≠ (T b).2.1) (k : Nat) (hk : k < N) (hlink : Cond.fieldLink own index ref (T k).2.1 (T k).2.2.1 ∈ Ts) (href : (T k).1 = ref) (hfin : (T k).2.2.2 = false) (hd : parseFieldDescriptor (T k).2.2.1 = some ty) (hn : narrow ty v = v) (hfit : fits ty v = true) (hl0 : k < fs.length) (hdg : decode cc pc = .ok (.putfield index, 3)) (hw : w.set i0 (wc.set q0 (a, .inr (ci, fs.set k v))) = w')
    (kk : Gd p l e R s m args below meth c cells slots Q D cl A nL (pc + 3) w' lv st) : Gd p l e R s m args below meth c cells slots Q D cl A nL pc w lv (v :: .ref a :: st) := by
  intro H locs ls hP hD hS hl
  obtain ⟨k0, hk0, hset⟩ := fl_set hi0 he
  refine va_put (own := own) X.1 X.2.1 X.2.2.2.2.1 hin ty0 hty hnm X.2.2.2.1 X.2.2.2.2.2.1 hP hD hS k0 hk0 hc k hk (X.2.2.2.2.1 _ hlink) (fun _ h => by rw [← href]; exact h) hfin hd hn hfit hl0 hdg (fun H1 locs1 hP1 hD1 hS1 => ?_)
  rw [hset, hw] at hP1 hD1
  exact kk H1 locs1 ls hP1 hD1 hS1 hl
theorem gd_putF (X : gx p s m args c cc nL own Ts D cl tys A) {a ci index N : Nat} {ref C : String} {T : u_T} {fs : List Value} {v : Value} {ty : FieldType} {w' : List va_W} (hin2 : meth.name = "<init>") {wc : va_W} (i0 q0 : Nat) (hi0 : w[i0]? = some wc) (he : wc[q0]? = some (a, .inr (ci, fs))) (hc : cl[ci]? = some (C, T, N)) (hin : ∀ w ∈ u_ws C T N, w ∈ Ts) (ty0 : Nat → FieldType) (hty : ∀ k, k < N → parseFieldDescriptor (T k).2.2.1 = some (ty0 k)) (hnm : ∀ a, a < N → ∀ b, b < N → a ≠ b → (T a).2.1 ≠ (T b).2.1) (k : Nat) (hk : k < N) (hlink : Cond.fieldLink own index ref (T k).2.1 (T k).2.2.1 ∈ Ts) (href : (T k).1 = ref) (hfin : (T k).2.2.2 = true) (hdecl : (T k).1 = own) (hd : parseFieldDescriptor (T k).2.2.1 = some ty) (hn : narrow ty v = v) (hfit : fits ty v = true) (hl0 : k < fs.length) (hdg : decode cc pc = .ok (.putfield index, 3)) (hw : w.set i0 (wc.set q0 (a, .inr (ci, fs.set k v))) = w')
    (kk : Gd p l e R s m args below meth c cells slots Q D cl A nL (pc + 3) w' lv st) : Gd p l e R s m args below meth c cells slots Q D cl A nL pc w lv (v :: .ref a :: st) := by
  intro H locs ls hP hD hS hl
  obtain ⟨k0, hk0, hset⟩ := fl_set hi0 he
  refine va_putF (own := own) X.1 X.2.1 X.2.2.2.2.1 hin ty0 hty hnm X.2.2.2.1 X.2.2.2.2.2.1 hP hD hS k0 hk0 hc k hk (X.2.2.2.2.1 _ hlink) (fun _ h => by rw [← href]; exact h) hfin hin2 hdecl hd hn hfit hl0 hdg (fun H1 locs1 hP1 hD1 hS1 => ?_)
  rw [hset, hw] at hP1 hD1
  exact kk H1 locs1 ls hP1 hD1 hS1 hl
theorem gd_iald (X : gx p s m args c cc nL own Ts D cl tys A) {a n : Nat} {cA : ClassId} {f : Nat → Int32} {i : Int32} {wc : va_W} (i0 q0 t0 : Nat) (hi0 : w[i0]? = some wc) (ha : wc[q0]? = some (a, .inl (cA, n, .inl f))) (ht : tys[t0]? = some (cA, .int)) (hin : vp_in i n) (hdg : decode cc pc = .ok (.iaload, 1))
    (kk : Gd p l e R s m args below meth c cells slots Q D cl A nL (pc + 1) w lv (.int (f i.toNatClampNeg) :: st)) : Gd p l e R s m args below meth c cells slots Q D cl A nL pc w lv (.int i :: .ref a :: st) := by
  intro H locs ls hP hD hS hl
  obtain ⟨k0, hk0⟩ := fl_get hi0 ha
  exact va_iald X.1 X.2.1 X.2.2.2.2.2.1 hP k0 t0 hk0 ht hin hdg (kk H locs ls hP hD hS hl)
theorem gd_iast (X : gx p s m args c cc nL own Ts D cl tys A) {a n : Nat} {cA : ClassId} {f : Nat → Int32} {i x : Int32} {w' : List va_W} {wc : va_W} (i0 q0 t0 : Nat) (hi0 : w[i0]? = some wc) (ha : wc[q0]? = some (a, .inl (cA, n, .inl f))) (ht : tys[t0]? = some (cA, .int)) (hin : vp_in i n) (hdg : decode cc pc = .ok (.iastore, 1)) (hw : w.set i0 (wc.set q0 (a, .inl (cA, n, .inl (upd f i.toNatClampNeg x)))) = w')
    (kk : Gd p l e R s m args below meth c cells slots Q D cl A nL (pc + 1) w' lv st) : Gd p l e R s m args below meth c cells slots Q D cl A nL pc w lv (.int x :: .int i :: .ref a :: st) := by
  intro H locs ls hP hD hS hl
  obtain ⟨k0, hk0, hset⟩ := fl_set hi0 ha
  refine va_iast X.1 X.2.1 X.2.2.2.2.2.1 hP hD hS k0 t0 hk0 ht hin hdg (fun H1 locs1 hP1 hD1 hS1 => ?_)
  rw [hset, hw] at hP1 hD1
  exact kk H1 locs1 ls hP1 hD1 hS1 hl
theorem gd_alen (X : gx p s m args c cc nL own Ts D cl tys A) {a : Nat} {cA : ClassId} {x : vp_A} {ty : FieldType} {wc : va_W} (i0 q0 t0 : Nat) (hi0 : w[i0]? = some wc) (ha : wc[q0]? = some (a, .inl (cA, x))) (ht : tys[t0]? = some (cA, ty)) {v : Int32} (hv : Int32.ofNat x.1 = v) (hdg : decode cc pc = .ok (.arraylength, 1))
    (kk : Gd p l e R s m args below meth c cells slots Q D cl A nL (pc + 1) w lv (.int v :: st)) : Gd p l e R s m args below meth c cells slots Q D cl A nL pc w lv (.ref a :: st) := by
  intro H locs ls hP hD hS hl
  obtain ⟨k0, hk0⟩ := fl_get hi0 ha
  exact va_alen X.1 X.2.1 X.2.2.2.2.2.1 hP k0 t0 hk0 ht hv hdg (kk H locs ls hP hD hS hl)
theorem gd_ldc (X : gx p s m args c cc nL own Ts D cl tys A) {index : Nat} {v : Int32} (hk : Cond.constant own index v ∈ Ts) (hdg : decode cc pc = .ok (.ldc index, 2))
    (kk : Gd p l e R s m args below meth c cells slots Q D cl A nL (pc + 2) w lv (.int v :: st)) : Gd p l e R s m args below meth c cells slots Q D cl A nL pc w lv st := by
  intro H locs ls hP hD hS hl
  exact lv_ldc X.1 X.2.1 X.2.2.2.1 (X.2.2.2.2.1 _ hk) hdg (kk H locs ls hP hD hS hl)
theorem gd_ldc2 (X : gx p s m args c cc nL own Ts D cl tys A) {index : Nat} {v : Int64} (hk : Cond.constantLong own index v ∈ Ts) (hdg : decode cc pc = .ok (.ldc2_w index, 3))
    (kk : Gd p l e R s m args below meth c cells slots Q D cl A nL (pc + 3) w lv (.long v :: st)) : Gd p l e R s m args below meth c cells slots Q D cl A nL pc w lv st := by
  intro H locs ls hP hD hS hl
  exact lv_ldc2 X.1 X.2.1 X.2.2.2.1 (X.2.2.2.2.1 _ hk) hdg (kk H locs ls hP hD hS hl)
theorem gd_mmin (X : gx p s m args c cc nL own Ts D cl tys A) {index : Nat} {x y : Int32} (h1 : Cond.methodLink own index Lib.Math.min.name ∈ Ts) (h2 : Cond.static Lib.Math.min.name ∈ Ts) (h3 : Cond.initialized "java/lang/Math" ∈ Ts) (h4 : Cond.code Lib.Math.min.name Lib.Math.min.code 2 (some .int) ∈ Ts) (hfr : 1 ≤ R.frames) (hlo : (st.map fun v => v.category).sum + 13 ≤ R.locals) (hcs : cells ≤ R.cells ∧ slots ≤ R.slots) (hdg : decode cc pc = .ok (.invokestatic index, 3))
    (kk : Gd p l e R s m args below meth c cells slots Q D cl A nL (pc + 3) w lv (.int (if y < x then y else x) :: st)) : Gd p l e R s m args below meth c cells slots Q D cl A nL pc w lv (.int y :: .int x :: st) := by
  intro H locs ls hP hD hS hl
  exact va_mmin X.1 X.2.1 (X.2.2.1.trans hl.1.symm) X.2.2.2.1 (X.2.2.2.2.1 _ h1) (X.2.2.2.2.1 _ h2) (X.2.2.2.2.1 _ h3) (X.2.2.2.2.1 _ h4) hfr hlo hcs.1 hcs.2 hdg (kk H locs ls hP hD hS hl)
theorem gd_mmax (X : gx p s m args c cc nL own Ts D cl tys A) {index : Nat} {x y : Int32} (h1 : Cond.methodLink own index Lib.Math.max.name ∈ Ts) (h2 : Cond.static Lib.Math.max.name ∈ Ts) (h3 : Cond.initialized "java/lang/Math" ∈ Ts) (h4 : Cond.code Lib.Math.max.name Lib.Math.max.code 2 (some .int) ∈ Ts) (hfr : 1 ≤ R.frames) (hlo : (st.map fun v => v.category).sum + 13 ≤ R.locals) (hcs : cells ≤ R.cells ∧ slots ≤ R.slots) (hdg : decode cc pc = .ok (.invokestatic index, 3))
    (kk : Gd p l e R s m args below meth c cells slots Q D cl A nL (pc + 3) w lv (.int (if x < y then y else x) :: st)) : Gd p l e R s m args below meth c cells slots Q D cl A nL pc w lv (.int y :: .int x :: st) := by
  intro H locs ls hP hD hS hl
  exact va_mmax X.1 X.2.1 (X.2.2.1.trans hl.1.symm) X.2.2.2.1 (X.2.2.2.2.1 _ h1) (X.2.2.2.2.1 _ h2) (X.2.2.2.2.1 _ h3) (X.2.2.2.2.1 _ h4) hfr hlo hcs.1 hcs.2 hdg (kk H locs ls hP hD hS hl)
theorem gd_mminl (X : gx p s m args c cc nL own Ts D cl tys A) {index : Nat} {x y : Int64} (h1 : Cond.methodLink own index Lib.MathLoose.min_long.x ∈ Ts) (h2 : Cond.static Lib.MathLoose.min_long.x ∈ Ts) (h3 : Cond.initialized "java/lang/Math" ∈ Ts) (h4 : Cond.code Lib.MathLoose.min_long.x Lib.MathLoose.min_long.code 4 (some .long) ∈ Ts) (hfr : 1 ≤ R.frames) (hlo : (st.map fun v => v.category).sum + 15 ≤ R.locals) (hcs : cells ≤ R.cells ∧ slots ≤ R.slots) (hdg : decode cc pc = .ok (.invokestatic index, 3))
    (kk : Gd p l e R s m args below meth c cells slots Q D cl A nL (pc + 3) w lv (.long (if y < x then y else x) :: st)) : Gd p l e R s m args below meth c cells slots Q D cl A nL pc w lv (.long y :: .long x :: st) := by
  intro H locs ls hP hD hS hl
  exact va_mmin_long X.1 X.2.1 (X.2.2.1.trans hl.1.symm) X.2.2.2.1 (X.2.2.2.2.1 _ h1) (X.2.2.2.2.1 _ h2) (X.2.2.2.2.1 _ h3) (X.2.2.2.2.1 _ h4) hfr hlo hcs.1 hcs.2 hdg (kk H locs ls hP hD hS hl)
/-- a contract's end: what it returns, the world behind it -/
def sq (D : va_G) (cl : List vw_C) (tys : List (ClassId × FieldType)) (ov : Option Value) (w1 : List va_W) (A : Nat → Prop) : Array Value → State → Outcome → State → Prop := fun _ st oc t => oc = .returned ov ∧ va_P D cl w1.flatten t.heap ∧ va_K D cl tys t ∧ va_D A w1.flatten ∧ va_F A st t
/-- a method that makes nothing: from the world wc to the world w1, with the answer ov -/
def SMet (l : Launch) (y : MethodName) (ws : List Cond) (rm : Room) (D : va_G) (cl : List vw_C) (tys : List (ClassId × FieldType)) (As : List Value) (ov : Option Value) (wc w1 : List va_W) : Prop :=
  ∀ sz : Nat, Met l y ws rm (va_Pc As (fun U => U.heap.size = sz ∧ va_P D cl wc.flatten U.heap ∧ va_K D cl tys U ∧ va_D (fun _ => True) wc.flatten)) (sq D cl tys ov w1 (va_A wc.flatten sz)) 0 0 (va_A wc.flatten sz)
theorem sm_of {y : MethodName} {ws ws' : List Cond} {rm : Room} {D : va_G} {cl : List vw_C} {tys : List (ClassId × FieldType)} {As : List Value} {ov : Option Value} {wc w1 : List va_W} {cc : ByteArray} {maxL : Nat} {ret : Option FieldType} (own : String) (hy : plainName y.cls = true) (ho : y.cls = own) (hw : ws = Cond.code y cc maxL ret :: ws') (hlen : (lg_sl As).length ≤ maxL)
    (body : ∀ (p : Program) (e : Env) (s : State) (m : MethodId) (below : List Frame) (meth : Method) (c : Code) (A : Nat → Prop), gx p s m As.toArray c cc maxL own ws D cl tys A → meth.sig.returnType = ret → meth.locks = false → Gd p l e rm s m As.toArray below meth c 0 0 (MQ below (sq D cl tys ov w1 A) As.toArray s 0 0 A) D cl A maxL 0 wc (lv_args 0 As) []) : SMet l y ws rm D cl tys As ov wc w1 := by
  intro sz
  refine Met.ofW (cc := cc) (maxL := maxL) (ret := ret) hy hw ?_
  intro p e s m args below meth c s₁ B hml hv
  obtain ⟨rfl, hsz, hP, hK, hD0⟩ := hv
  have hts := atoms_spec (ws := ws) B.pre
  have hown : s.vm.findClass y.cls = some m.cls := findClass_of_methodNamed B.named
  subst hsz
  have hl := lv_entry As (n := maxL) hlen
  rw [lg_entry_eq]
  exact body p e s m below meth c (va_A wc.flatten s.heap.size) ⟨B.exec, B.bytes, hml, ho ▸ hown, hts, hK, fun q h => Or.inr h⟩ B.returns B.notSynchronized s.heap [] _ hP hD0.self va_S.rf hl
theorem gd_iret (X : gx p s m args c cc nL own Ts D cl tys A) (hr : meth.sig.returnType = some .int) (hlocks : meth.locks = false) {v : Int32} (hdg : decode cc pc = .ok (.ireturn, 1)) : Gd p l e R s m args below meth c cells slots (MQ below (sq D cl tys (some (.int v)) w A) args s cells slots A) D cl A nL pc w lv [.int v] := by
  intro H locs ls hP hD hS hl
  exact W.iret X.1 X.2.1 hr (fun t ht hW => ⟨rfl, by rw [ht]; exact hP, va_K.moved hW.alike X.2.2.2.2.2.1, hD, hS.F ht⟩) hS.2.2 hdg hlocks
theorem gd_zret (X : gx p s m args c cc nL own Ts D cl tys A) {ty : FieldType} (hr : meth.sig.returnType = some ty) (hlocks : meth.locks = false) {v : Int32} (hn : narrow ty (.int v) = .int v) (hdg : decode cc pc = .ok (.ireturn, 1)) : Gd p l e R s m args below meth c cells slots (MQ below (sq D cl tys (some (.int v)) w A) args s cells slots A) D cl A nL pc w lv [.int v] := by
  intro H locs ls hP hD hS hl
  exact W.zret X.1 X.2.1 hr hn (fun t ht hW => ⟨rfl, by rw [ht]; exact hP, va_K.moved hW.alike X.2.2.2.2.2.1, hD, hS.F ht⟩) hS.2.2 hdg hlocks
theorem gd_vret (X : gx p s m args c cc nL own Ts D cl tys A) (hr : meth.sig.returnType = none) (hlocks : meth.locks = false) (hdg : decode cc pc = .ok (.return_, 1)) : Gd p l e R s m args below meth c cells slots (MQ below (sq D cl tys none w A) args s cells slots A) D cl A nL pc w lv [] := by
  intro H locs ls hP hD hS hl
  exact W.vret X.1 X.2.1 hr (fun t ht hW => ⟨rfl, by rw [ht]; exact hP, va_K.moved hW.alike X.2.2.2.2.2.1, hD, hS.F ht⟩) hS.2.2 hdg hlocks
/-- behind a call: the callee's cells as it left them, the others as they were -/
theorem gd_mix {cs cs1 w2 : List va_W} {H H1 : Heap} {A : Nat → Prop} {D : va_G} {cl : List vw_C} {w : List va_W} {isC isR : List Nat} (hP : va_P D cl w.flatten H) (hD : va_D A w.flatten) (hC : isC.map (fun i => w[i]?) = cs.map some) (hC1 : isC.map (fun i => w2[i]?) = cs1.map some) (hR : isR.map (fun i => w2[i]?) = isR.map (fun i => w[i]?)) (hcov : ∀ i, i < w2.length → i ∈ isC ∨ (i ∈ isR ∧ i ∉ isC)) (had : w2.map (fun c => c.map Prod.fst) = w.map (fun c => c.map Prod.fst))
    (hk : ∀ q : Nat, q < H.size → ¬ va_A cs.flatten H.size q → H1[q]? = H[q]?) (hP1 : va_P D cl cs1.flatten H1) : va_P D cl w2.flatten H1 ∧ va_D A w2.flatten := by
  have hN := vN_of hD
  refine ⟨vP_iff.mpr (fun q hq => ?_), ?_⟩
  · obtain ⟨c, hc, hqc⟩ := List.mem_flatten.mp hq
    obtain ⟨i, hi⟩ := List.getElem?_of_mem hc
    have hlt : i < w2.length := (List.getElem?_eq_some_iff.mp hi).1
    rcases hcov i hlt with h | ⟨h, hn⟩
    · exact vP_iff.mp hP1 q (List.mem_flatten.mpr ⟨c, fl_sel2 hC1 h hi, hqc⟩)
    · obtain ⟨k, hk'⟩ := List.getElem?_of_mem h
      have h1 : (isR.map (fun i => w2[i]?))[k]? = some (some c) := by rw [List.getElem?_map, hk', Option.map_some, hi]
      rw [hR, List.getElem?_map, hk', Option.map_some] at h1
      have hwi : w[i]? = some c := Option.some.inj h1
      have hat := vP_iff.mp hP q (fl_mem hwi hqc)
      refine hat.kept (hk q.1 hat.lt (fun ha => ?_))
      rcases vA_iff.mp ha with ⟨q', hq', e'⟩ | h2
      · obtain ⟨j, hj, c', hc', hqc'⟩ := fl_sel hC q' hq'
        have hij : i ≠ j := fun e => hn (e ▸ hj)
        exact fl_apart hN hij hwi hc' hqc hqc' e'.symm
      · exact absurd hat.lt (Nat.not_lt.mpr h2)
  · have h1 := fl_adr had
    refine vD_of (vN_adr h1 hN) (fun q hq => ?_)
    have h2 : q.1 ∈ w2.flatten.map Prod.fst := List.mem_map.mpr ⟨q, hq, rfl⟩
    rw [h1] at h2
    obtain ⟨q', hq', e⟩ := List.mem_map.mp h2
    obtain ⟨k, hk⟩ := List.getElem?_of_mem hq'
    rw [← e]; exact hD.2 k q' hk
/-- the same, where the callee changed nothing -/
theorem gd_same {cs : List va_W} {H H1 : Heap} {A : Nat → Prop} {D : va_G} {cl : List vw_C} {w : List va_W} {isC : List Nat} (hP : va_P D cl w.flatten H) (hD : va_D A w.flatten) (hC : isC.map (fun i => w[i]?) = cs.map some)
    (hk : ∀ q : Nat, q < H.size → ¬ va_A cs.flatten H.size q → H1[q]? = H[q]?) (hP1 : va_P D cl cs.flatten H1) : va_P D cl w.flatten H1 := by
  refine vP_iff.mpr (fun q hq => ?_)
  have hat := vP_iff.mp hP q hq
  by_cases h : va_A cs.flatten H.size q.1
  · rcases vA_iff.mp h with ⟨q', hq', e'⟩ | h2
    · obtain ⟨i, hi⟩ := List.getElem?_of_mem hq
      obtain ⟨j, hj, c', hc', hqc'⟩ := fl_sel hC q' hq'
      obtain ⟨k, hk2⟩ := List.getElem?_of_mem (fl_mem hc' hqc')
      have := hD.1 i k q q' hi hk2 e'.symm
      subst this
      rw [hi] at hk2
      cases hk2
      exact vP_iff.mp hP1 q hq'
    · exact absurd hat.lt (Nat.not_lt.mpr h2)
  · exact hat.kept (hk q.1 hat.lt h)
/-- a run of a callee, as the call rows take it -/
def gd_Run (p : Program) (l : Launch) (e : Env) (R : Room) (s : State) (m : MethodId) (args : Array Value) (below : List Frame) (meth : Method) (c : Code) (cells slots : Nat) (D : va_G) (cl : List vw_C) (tys : List (ClassId × FieldType)) (nL pc : Nat) (lv : List (Nat × Value)) (stk rest : List Value) (ov : Option Value) (wc w1 : List va_W) : Prop :=
  ∀ (H : Heap) (locs : List Loc) (ls : Array Slot), va_P D cl wc.flatten H → va_D (fun _ => True) wc.flatten → lv_has ls nL lv → ∃ a, va_Run p l e R s m args below meth c H locs cells slots 0 0 (F0 m pc ls stk) rest (sq D cl tys ov w1 (va_A wc.flatten H.size) a) (va_A wc.flatten H.size)
theorem gd_freeC {cs w : List va_W} {A : Nat → Prop} {isC : List Nat} {H H0 : Heap} {locs : List Loc} (hD : va_D A w.flatten) (hS : va_S A H0 H locs) (hA : ∀ q, H0.size ≤ q → A q) (hC : isC.map (fun i => w[i]?) = cs.map some) : ∀ q, va_A cs.flatten H.size q → A q := by
  intro q hq
  rcases vA_iff.mp hq with ⟨q', hq', rfl⟩ | h
  · obtain ⟨i, -, c, hc, hqc⟩ := fl_sel hC q' hq'
    obtain ⟨k, hk⟩ := List.getElem?_of_mem (fl_mem hc hqc)
    exact hD.2 k _ hk
  · exact hA q (Nat.le_trans hS.1 h)
theorem gd_run (X : gx p s m args c cc nL own Ts D cl tys A) {ov : Option Value} {wc w1 w2 : List va_W} {rest stk : List Value} (hrun : gd_Run p l e R s m args below meth c cells slots D cl tys nL pc lv stk rest ov wc w1) (isC isR : List Nat) (hnd : va_nd isC = true) (hC : isC.map (fun i => w[i]?) = wc.map some) (hC1 : isC.map (fun i => w2[i]?) = w1.map some) (hR : isR.map (fun i => w2[i]?) = isR.map (fun i => w[i]?)) (hcov : ∀ i, i < w2.length → i ∈ isC ∨ (i ∈ isR ∧ i ∉ isC)) (had : w2.map (fun c => c.map Prod.fst) = w.map (fun c => c.map Prod.fst))
    (kk : Gd p l e R s m args below meth c cells slots Q D cl A nL (pc + 3) w2 lv (ov.toList ++ rest)) : Gd p l e R s m args below meth c cells slots Q D cl A nL pc w lv stk := by
  intro H locs ls hP hD hS hl T hT X'
  obtain ⟨a, hr⟩ := hrun H locs ls (gd_pick hP hC) (gd_pickD hnd hD hC) hl
  have hFc := gd_freeC hD hS X.2.2.2.2.2.2 hC
  obtain ⟨v, st₀, t, T', L, h0, Xs, hL, e1, e2, ⟨hv, hP1, hK1, hD1, hz, hk⟩, stp⟩ := hr T hT X'
  cases hv
  rw [h0] at hz hk
  obtain ⟨hP2, hD2⟩ := gd_mix (H1 := T'.heap) hP hD hC hC1 hR hcov had (fun q h1 h2 => by rw [e1]; exact hk q h1 h2) (by rw [e1]; exact hP1)
  have hS2 : va_S A s.heap T'.heap (locs ++ L) := ⟨Nat.le_trans hS.1 (by rw [e1]; exact hz), fun q h1 h2 => by rw [e1, hk q (Nat.lt_of_lt_of_le h1 hS.1) (fun z => h2 (hFc q z))]; exact hS.2.1 q h1 h2, fun q hq => by
      rcases List.mem_append.mp hq with h | h
      · exact hS.2.2 q h
      · exact hFc _ (hL q h)⟩
  obtain ⟨t2, a1, b1⟩ := kk T'.heap (locs ++ L) ls hP2 hD2 hS2 hl T' rfl Xs
  exact ⟨t2, stp t2 a1, b1⟩
theorem gd_runP (X : gx p s m args c cc nL own Ts D cl tys A) {ov : Option Value} {wc : List va_W} {rest stk : List Value} (hrun : gd_Run p l e R s m args below meth c cells slots D cl tys nL pc lv stk rest ov wc wc) (isC : List Nat) (hnd : va_nd isC = true) (hC : isC.map (fun i => w[i]?) = wc.map some)
    (kk : Gd p l e R s m args below meth c cells slots Q D cl A nL (pc + 3) w lv (ov.toList ++ rest)) : Gd p l e R s m args below meth c cells slots Q D cl A nL pc w lv stk := by
  intro H locs ls hP hD hS hl T hT X'
  obtain ⟨a, hr⟩ := hrun H locs ls (gd_pick hP hC) (gd_pickD hnd hD hC) hl
  have hFc := gd_freeC hD hS X.2.2.2.2.2.2 hC
  obtain ⟨v, st₀, t, T', L, h0, Xs, hL, e1, e2, ⟨hv, hP1, hK1, hD1, hz, hk⟩, stp⟩ := hr T hT X'
  cases hv
  rw [h0] at hz hk
  have hP2 := gd_same (H1 := T'.heap) hP hD hC (fun q h1 h2 => by rw [e1]; exact hk q h1 h2) (by rw [e1]; exact hP1)
  have hS2 : va_S A s.heap T'.heap (locs ++ L) := ⟨Nat.le_trans hS.1 (by rw [e1]; exact hz), fun q h1 h2 => by rw [e1, hk q (Nat.lt_of_lt_of_le h1 hS.1) (fun z => h2 (hFc q z))]; exact hS.2.1 q h1 h2, fun q hq => by
      rcases List.mem_append.mp hq with h | h
      · exact hS.2.2 q h
      · exact hFc _ (hL q h)⟩
  obtain ⟨t2, a1, b1⟩ := kk T'.heap (locs ++ L) ls hP2 hD hS2 hl T' rfl Xs
  exact ⟨t2, stp t2 a1, b1⟩
theorem gd_blind {As : List Value} {sz : Nat} {wc : va_W} {D : va_G} {cl : List vw_C} {tys : List (ClassId × FieldType)} : FrameBlind (va_Pc As (fun U => U.heap.size = sz ∧ va_P D cl wc U.heap ∧ va_K D cl tys U ∧ va_D (fun _ => True) wc)) := by
  intro a U g mk q
  obtain ⟨q0, q1, qP, qK, qD⟩ := q
  exact ⟨q0, q1, qP, va_K.moved (u := U) (U := U.calling g mk a) (Vm.Alike.refl U.vm) qK, qD⟩
/-- invokevirtual -/
theorem gd_V (X : gx p s m args c cc nL own Ts D cl tys A) {y : MethodName} {bytes : ByteArray} {maxL index b ci : Nat} {ret : Option FieldType} {ws ws' : List Cond} {rm : Room} {C : String} {q : vw_C} {fs As rest stk : List Value} {ov : Option Value} {wc w1 : List va_W} {w0 : va_W} (hM : SMet l y ws rm D cl tys (.ref b :: As) ov wc w1) (n : Nat) (hT : GoodIn Ts (wsV own index C y ws)) (hw : ws = Cond.code y bytes maxL ret :: ws') (hrm : rm.cells = 0 ∧ rm.slots = 0)
    (hd : y.cls = C ∧ y.cls ≠ "java/lang/invoke/MethodHandle" ∧ y.cls ≠ "java/lang/invoke/VarHandle" ∧ (parseMethodDescriptor y.desc).map (fun d => d.parameters.length) = some n) (hRm : rm.frames + 1 ≤ R.frames ∧ 8 + (maxL + 11) + rm.locals ≤ R.locals) (hci : cl[ci]? = some q) (hq : q.1 = C) (h0 : wc[0]? = some w0) (he : w0[0]? = some (b, .inr (ci, fs))) (hn : As.length = n) (hstk : stk = As.reverse ++ .ref b :: rest) (hroom : (rest.map fun v => v.category).sum ≤ 8) (hcs : cells ≤ R.cells ∧ slots ≤ R.slots) (hdg : decode cc pc = .ok (.invokevirtual index, 3)) :
    gd_Run p l e R s m args below meth c cells slots D cl tys nL pc lv stk rest ov wc w1 := by
  intro H locs ls hP hD hl
  subst hstk
  obtain ⟨k0, hk0⟩ := fl_get h0 he
  refine ⟨_, va_runV (As := As) (rest := rest) (C := C) ⟨X.1, X.2.1, X.2.2.1, X.2.2.2.1, X.2.2.2.2.1⟩ (hM H.size) (cwV n X.2.2.2.2.1 hT hw hrm.1 hrm.2 hd hRm) ⟨gd_blind, ?_, fun U hU hW => ⟨rfl, by rw [hU], by rw [hU]; exact hP, va_K.moved hW.alike X.2.2.2.2.2.1, hD⟩⟩ rfl hn hl.1 rfl (lv_room hroom) hdg hcs⟩
  rw [← hq]
  exact va_recv X.2.2.2.2.2.1 hP hci hk0
/-- invokestatic -/
theorem gd_Sc (X : gx p s m args c cc nL own Ts D cl tys A) {y : MethodName} {bytes : ByteArray} {maxL index : Nat} {ret : Option FieldType} {ws ws' : List Cond} {rm : Room} {As rest stk : List Value} {ov : Option Value} {wc w1 : List va_W} (hM : SMet l y ws rm D cl tys As ov wc w1) (n : Nat) (hT : GoodIn Ts (va_wsS own index y ws)) (hw : ws = Cond.code y bytes maxL ret :: ws') (hrm : rm.cells = 0 ∧ rm.slots = 0)
    (hd : y.cls ≠ "java/lang/invoke/MethodHandle" ∧ y.cls ≠ "java/lang/invoke/VarHandle" ∧ (parseMethodDescriptor y.desc).map (fun d => d.parameters.length) = some n) (hRm : rm.frames + 1 ≤ R.frames ∧ 8 + (maxL + 11) + rm.locals ≤ R.locals) (hn : As.length = n) (hstk : stk = As.reverse ++ rest) (hroom : (rest.map fun v => v.category).sum ≤ 8) (hcs : cells ≤ R.cells ∧ slots ≤ R.slots) (hdg : decode cc pc = .ok (.invokestatic index, 3)) :
    gd_Run p l e R s m args below meth c cells slots D cl tys nL pc lv stk rest ov wc w1 := by
  intro H locs ls hP hD hl
  subst hstk
  exact ⟨_, va_runS (As := As) (rest := rest) ⟨X.1, X.2.1, X.2.2.1, X.2.2.2.1, X.2.2.2.2.1⟩ (hM H.size) (va_cwS n X.2.2.2.2.1 hT hw hrm.1 hrm.2 hd hRm) ⟨gd_blind, fun U hU hW => ⟨rfl, by rw [hU], by rw [hU]; exact hP, va_K.moved hW.alike X.2.2.2.2.2.1, hD⟩⟩ rfl hn hl.1 rfl (lv_room hroom) hdg hcs⟩
theorem gd_cov {w2 : List va_W} {isC isR : List Nat} (h : (List.range w2.length).all (fun i => isC.contains i || isR.contains i) = true ∧ isR.all (fun i => !isC.contains i) = true) : ∀ i, i < w2.length → i ∈ isC ∨ (i ∈ isR ∧ i ∉ isC) := by
  intro i hi
  have h1 := List.all_eq_true.mp h.1 i (List.mem_range.mpr hi)
  rcases Bool.or_eq_true _ _ |>.mp h1 with h2 | h2
  · exact Or.inl (List.contains_iff_mem.mp h2)
  · have h3 := List.contains_iff_mem.mp h2
    have h4 := List.all_eq_true.mp h.2 i h3
    refine Or.inr ⟨h3, fun h5 => ?_⟩
    rw [List.contains_iff_mem.mpr h5] at h4
    exact absurd h4 (by decide)
theorem gd_runF (X : gx p s m args c cc nL own Ts D cl tys A) {ov : Option Value} {w1 : List va_W} {rest stk : List Value} (hrun : gd_Run p l e R s m args below meth c cells slots D cl tys nL pc lv stk rest ov w w1) 
    (kk : Gd p l e R s m args below meth c cells slots Q D cl A nL (pc + 3) w1 lv (ov.toList ++ rest)) : Gd p l e R s m args below meth c cells slots Q D cl A nL pc w lv stk := by
  intro H locs ls hP hD hS hl T hT X'
  obtain ⟨a, hr⟩ := hrun H locs ls hP (hD.weaken (fun _ _ _ _ => trivial)) hl
  have hFc : ∀ q, va_A w.flatten H.size q → A q := by
    intro q hq
    rcases hq with ⟨k, e, hk⟩ | hq
    · exact hD.2 k _ hk
    · exact X.2.2.2.2.2.2 q (Nat.le_trans hS.1 hq)
  obtain ⟨v, st₀, t, T', L, h0, Xs, hL, e1, e2, ⟨hv, hP1, hK1, hD1, hz, hk⟩, stp⟩ := hr T hT X'
  cases hv
  rw [h0] at hz hk
  have hS2 : va_S A s.heap T'.heap (locs ++ L) := ⟨Nat.le_trans hS.1 (by rw [e1]; exact hz), fun q h1 h2 => by rw [e1, hk q (Nat.lt_of_lt_of_le h1 hS.1) (fun z => h2 (hFc q z))]; exact hS.2.1 q h1 h2, fun q hq => by
      rcases List.mem_append.mp hq with h | h
      · exact hS.2.2 q h
      · exact hFc _ (hL q h)⟩
  obtain ⟨t2, a1, b1⟩ := kk T'.heap (locs ++ L) ls (by rw [e1]; exact hP1) (hD1.weaken (fun k q hk h => hFc q.1 h)) hS2 hl T' rfl Xs
  exact ⟨t2, stp t2 a1, b1⟩
theorem gd_cI (X : gx p s m args c cc nL own Ts D cl tys A) {r : Int32} {wc w1 w2 : List va_W} {rest stk : List Value} (hrun : gd_Run p l e R s m args below meth c cells slots D cl tys nL pc lv stk rest (some (.int r)) wc w1) (isC isR : List Nat) (hnd : va_nd isC = true) (hC : isC.map (fun i => w[i]?) = wc.map some) (hC1 : isC.map (fun i => w2[i]?) = w1.map some) (hR : isR.map (fun i => w2[i]?) = isR.map (fun i => w[i]?)) (hcov : (List.range w2.length).all (fun i => isC.contains i || isR.contains i) = true ∧ isR.all (fun i => !isC.contains i) = true) (had : w2.map (fun c => c.map Prod.fst) = w.map (fun c => c.map Prod.fst))
    (kk : Gd p l e R s m args below meth c cells slots Q D cl A nL (pc + 3) w2 lv (.int r :: rest)) : Gd p l e R s m args below meth c cells slots Q D cl A nL pc w lv stk :=
  gd_run X hrun isC isR hnd hC hC1 hR (gd_cov hcov) had kk
theorem gd_pI (X : gx p s m args c cc nL own Ts D cl tys A) {r : Int32} {wc : List va_W} {rest stk : List Value} (hrun : gd_Run p l e R s m args below meth c cells slots D cl tys nL pc lv stk rest (some (.int r)) wc wc) (isC : List Nat) (hnd : va_nd isC = true) (hC : isC.map (fun i => w[i]?) = wc.map some)
    (kk : Gd p l e R s m args below meth c cells slots Q D cl A nL (pc + 3) w lv (.int r :: rest)) : Gd p l e R s m args below meth c cells slots Q D cl A nL pc w lv stk :=
  gd_runP X hrun isC hnd hC kk
theorem gd_fI (X : gx p s m args c cc nL own Ts D cl tys A) {r : Int32} {w1 : List va_W} {rest stk : List Value} (hrun : gd_Run p l e R s m args below meth c cells slots D cl tys nL pc lv stk rest (some (.int r)) w w1)
    (kk : Gd p l e R s m args below meth c cells slots Q D cl A nL (pc + 3) w1 lv (.int r :: rest)) : Gd p l e R s m args below meth c cells slots Q D cl A nL pc w lv stk := gd_runF X hrun kk
theorem gd_cL (X : gx p s m args c cc nL own Ts D cl tys A) {r : Int64} {wc w1 w2 : List va_W} {rest stk : List Value} (hrun : gd_Run p l e R s m args below meth c cells slots D cl tys nL pc lv stk rest (some (.long r)) wc w1) (isC isR : List Nat) (hnd : va_nd isC = true) (hC : isC.map (fun i => w[i]?) = wc.map some) (hC1 : isC.map (fun i => w2[i]?) = w1.map some) (hR : isR.map (fun i => w2[i]?) = isR.map (fun i => w[i]?)) (hcov : (List.range w2.length).all (fun i => isC.contains i || isR.contains i) = true ∧ isR.all (fun i => !isC.contains i) = true) (had : w2.map (fun c => c.map Prod.fst) = w.map (fun c => c.map Prod.fst))
    (kk : Gd p l e R s m args below meth c cells slots Q D cl A nL (pc + 3) w2 lv (.long r :: rest)) : Gd p l e R s m args below meth c cells slots Q D cl A nL pc w lv stk :=
  gd_run X hrun isC isR hnd hC hC1 hR (gd_cov hcov) had kk
theorem gd_pL (X : gx p s m args c cc nL own Ts D cl tys A) {r : Int64} {wc : List va_W} {rest stk : List Value} (hrun : gd_Run p l e R s m args below meth c cells slots D cl tys nL pc lv stk rest (some (.long r)) wc wc) (isC : List Nat) (hnd : va_nd isC = true) (hC : isC.map (fun i => w[i]?) = wc.map some)
    (kk : Gd p l e R s m args below meth c cells slots Q D cl A nL (pc + 3) w lv (.long r :: rest)) : Gd p l e R s m args below meth c cells slots Q D cl A nL pc w lv stk :=
  gd_runP X hrun isC hnd hC kk
theorem gd_fL (X : gx p s m args c cc nL own Ts D cl tys A) {r : Int64} {w1 : List va_W} {rest stk : List Value} (hrun : gd_Run p l e R s m args below meth c cells slots D cl tys nL pc lv stk rest (some (.long r)) w w1)
    (kk : Gd p l e R s m args below meth c cells slots Q D cl A nL (pc + 3) w1 lv (.long r :: rest)) : Gd p l e R s m args below meth c cells slots Q D cl A nL pc w lv stk := gd_runF X hrun kk
theorem gd_cv (X : gx p s m args c cc nL own Ts D cl tys A) {wc w1 w2 : List va_W} {rest stk : List Value} (hrun : gd_Run p l e R s m args below meth c cells slots D cl tys nL pc lv stk rest none wc w1) (isC isR : List Nat) (hnd : va_nd isC = true) (hC : isC.map (fun i => w[i]?) = wc.map some) (hC1 : isC.map (fun i => w2[i]?) = w1.map some) (hR : isR.map (fun i => w2[i]?) = isR.map (fun i => w[i]?)) (hcov : (List.range w2.length).all (fun i => isC.contains i || isR.contains i) = true ∧ isR.all (fun i => !isC.contains i) = true) (had : w2.map (fun c => c.map Prod.fst) = w.map (fun c => c.map Prod.fst))
    (kk : Gd p l e R s m args below meth c cells slots Q D cl A nL (pc + 3) w2 lv (rest)) : Gd p l e R s m args below meth c cells slots Q D cl A nL pc w lv stk :=
  gd_run X hrun isC isR hnd hC hC1 hR (gd_cov hcov) had kk
theorem gd_pv (X : gx p s m args c cc nL own Ts D cl tys A) {wc : List va_W} {rest stk : List Value} (hrun : gd_Run p l e R s m args below meth c cells slots D cl tys nL pc lv stk rest none wc wc) (isC : List Nat) (hnd : va_nd isC = true) (hC : isC.map (fun i => w[i]?) = wc.map some)
    (kk : Gd p l e R s m args below meth c cells slots Q D cl A nL (pc + 3) w lv (rest)) : Gd p l e R s m args below meth c cells slots Q D cl A nL pc w lv stk :=
  gd_runP X hrun isC hnd hC kk
theorem gd_fv (X : gx p s m args c cc nL own Ts D cl tys A) {w1 : List va_W} {rest stk : List Value} (hrun : gd_Run p l e R s m args below meth c cells slots D cl tys nL pc lv stk rest none w w1)
    (kk : Gd p l e R s m args below meth c cells slots Q D cl A nL (pc + 3) w1 lv (rest)) : Gd p l e R s m args below meth c cells slots Q D cl A nL pc w lv stk := gd_runF X hrun kk
theorem gd_lret (X : gx p s m args c cc nL own Ts D cl tys A) (hr : meth.sig.returnType = some .long) (hlocks : meth.locks = false) {v : Int64} (hdg : decode cc pc = .ok (.lreturn, 1)) : Gd p l e R s m args below meth c cells slots (MQ below (sq D cl tys (some (.long v)) w A) args s cells slots A) D cl A nL pc w lv [.long v] := by
  intro H locs ls hP hD hS hl
  exact W.lret X.1 X.2.1 hr (fun t ht hW => ⟨rfl, by rw [ht]; exact hP, va_K.moved hW.alike X.2.2.2.2.2.1, hD, hS.F ht⟩) hS.2.2 hdg hlocks
theorem gd_tabIn (X : gx p s m args c cc nL own Ts D cl tys A) {dflt lo hi : Int} {offs : Array Int} {len : Nat} {x : Int32} {off : Int} {tgt : Nat} (hdg : decode cc pc = .ok (.tableswitch dflt lo hi offs, len)) (h1 : ¬ x.toInt < lo) (h2 : ¬ hi < x.toInt) (ho : offs[(x.toInt - lo).toNat]? = some off) (ht : (pc : Int) + off = (tgt : Int))
    (kk : Gd p l e R s m args below meth c cells slots Q D cl A nL tgt w lv st) : Gd p l e R s m args below meth c cells slots Q D cl A nL pc w lv (.int x :: st) := by
  intro H locs ls hP hD hS hl
  exact lv_tableIn X.1 X.2.1 hdg h1 h2 ho ht (kk H locs ls hP hD hS hl)
theorem gd_tabOut (X : gx p s m args c cc nL own Ts D cl tys A) {dflt lo hi : Int} {offs : Array Int} {len : Nat} {x : Int32} {tgt : Nat} (hdg : decode cc pc = .ok (.tableswitch dflt lo hi offs, len)) (h : x.toInt < lo ∨ hi < x.toInt) (ht : (pc : Int) + dflt = (tgt : Int))
    (kk : Gd p l e R s m args below meth c cells slots Q D cl A nL tgt w lv st) : Gd p l e R s m args below meth c cells slots Q D cl A nL pc w lv (.int x :: st) := by
  intro H locs ls hP hD hS hl
  exact lv_tableOut X.1 X.2.1 hdg h ht (kk H locs ls hP hD hS hl)
theorem tab_out {x : Int32} {lo hi : Int} (h : ∀ k : Int, lo ≤ k → k ≤ hi → ¬ x.toInt = k) : x.toInt < lo ∨ hi < x.toInt := by
  by_cases h1 : x.toInt < lo
  · exact Or.inl h1
  · by_cases h2 : hi < x.toInt
    · exact Or.inr h2
    · exact absurd rfl (h x.toInt (by omega) (by omega))
/-- arrays of booleans and longs -/
theorem gd_zald (X : gx p s m args c cc nL own Ts D cl tys A) {a n : Nat} {cA : ClassId} {f : Nat → Int32} {i : Int32} {wc : va_W} (i0 q0 t0 : Nat) (hi0 : w[i0]? = some wc) (ha : wc[q0]? = some (a, .inl (cA, n, .inl f))) (ht : tys[t0]? = some (cA, .boolean)) (hin : vp_in i n) (hdg : decode cc pc = .ok (.baload, 1))
    (kk : Gd p l e R s m args below meth c cells slots Q D cl A nL (pc + 1) w lv (.int (f i.toNatClampNeg) :: st)) : Gd p l e R s m args below meth c cells slots Q D cl A nL pc w lv (.int i :: .ref a :: st) := by
  intro H locs ls hP hD hS hl
  obtain ⟨k0, hk0⟩ := fl_get hi0 ha
  exact va_zald X.1 X.2.1 X.2.2.2.2.2.1 hP k0 t0 hk0 ht hin hdg (kk H locs ls hP hD hS hl)
theorem gd_zast (X : gx p s m args c cc nL own Ts D cl tys A) {a n : Nat} {cA : ClassId} {f : Nat → Int32} {i x : Int32} {w' : List va_W} {wc : va_W} (i0 q0 t0 : Nat) (hi0 : w[i0]? = some wc) (ha : wc[q0]? = some (a, .inl (cA, n, .inl f))) (ht : tys[t0]? = some (cA, .boolean)) (hin : vp_in i n) (hx : vp_nar .boolean x = x) (hdg : decode cc pc = .ok (.bastore, 1)) (hw : w.set i0 (wc.set q0 (a, .inl (cA, n, .inl (upd f i.toNatClampNeg x)))) = w')
    (kk : Gd p l e R s m args below meth c cells slots Q D cl A nL (pc + 1) w' lv st) : Gd p l e R s m args below meth c cells slots Q D cl A nL pc w lv (.int x :: .int i :: .ref a :: st) := by
  intro H locs ls hP hD hS hl
  obtain ⟨k0, hk0, hset⟩ := fl_set hi0 ha
  refine va_zast X.1 X.2.1 X.2.2.2.2.2.1 hP hD hS k0 t0 hk0 ht hin hdg (fun H1 locs1 hP1 hD1 hS1 => ?_)
  rw [hx, hset, hw] at hP1 hD1
  exact kk H1 locs1 ls hP1 hD1 hS1 hl
theorem gd_lald (X : gx p s m args c cc nL own Ts D cl tys A) {a n : Nat} {cA : ClassId} {f : Nat → Int64} {i : Int32} {wc : va_W} (i0 q0 t0 : Nat) (hi0 : w[i0]? = some wc) (ha : wc[q0]? = some (a, .inl (cA, n, .inr (.inl f)))) (ht : tys[t0]? = some (cA, .long)) (hin : vp_in i n) (hdg : decode cc pc = .ok (.laload, 1))
    (kk : Gd p l e R s m args below meth c cells slots Q D cl A nL (pc + 1) w lv (.long (f i.toNatClampNeg) :: st)) : Gd p l e R s m args below meth c cells slots Q D cl A nL pc w lv (.int i :: .ref a :: st) := by
  intro H locs ls hP hD hS hl
  obtain ⟨k0, hk0⟩ := fl_get hi0 ha
  exact va_lald X.1 X.2.1 X.2.2.2.2.2.1 hP k0 t0 hk0 ht hin hdg (kk H locs ls hP hD hS hl)
theorem gd_last (X : gx p s m args c cc nL own Ts D cl tys A) {a n : Nat} {cA : ClassId} {f : Nat → Int64} {i : Int32} {x : Int64} {w' : List va_W} {wc : va_W} (i0 q0 t0 : Nat) (hi0 : w[i0]? = some wc) (ha : wc[q0]? = some (a, .inl (cA, n, .inr (.inl f)))) (ht : tys[t0]? = some (cA, .long)) (hin : vp_in i n) (hdg : decode cc pc = .ok (.lastore, 1)) (hw : w.set i0 (wc.set q0 (a, .inl (cA, n, .inr (.inl (vp_updL f i.toNatClampNeg x))))) = w')
    (kk : Gd p l e R s m args below meth c cells slots Q D cl A nL (pc + 1) w' lv st) : Gd p l e R s m args below meth c cells slots Q D cl A nL pc w lv (.long x :: .int i :: .ref a :: st) := by
  intro H locs ls hP hD hS hl
  obtain ⟨k0, hk0, hset⟩ := fl_set hi0 ha
  refine va_last X.1 X.2.1 X.2.2.2.2.2.1 hP hD hS k0 t0 hk0 ht hin hdg (fun H1 locs1 hP1 hD1 hS1 => ?_)
  rw [hset, hw] at hP1 hD1
  exact kk H1 locs1 ls hP1 hD1 hS1 hl
theorem gd_lconst (X : gx p s m args c cc nL own Ts D cl tys A) {n : Fin 2} {v : Int64} (hdg : decode cc pc = .ok (.lconst n, 1)) (hv : Int64.ofNat (n : Nat) = v) (kk : Gd p l e R s m args below meth c cells slots Q D cl A nL (pc + 1) w lv (.long v :: st)) : Gd p l e R s m args below meth c cells slots Q D cl A nL pc w lv st := by
  intro H locs ls hP hD hS hl
  exact lv_lconst X.1 X.2.1 hdg hv (kk H locs ls hP hD hS hl)
theorem gd_lstore_n (X : gx p s m args c cc nL own Ts D cl tys A) {k : Fin 4} {i : Nat} {x : Int64} {lv' : List (Nat × Value)} (hdg : decode cc pc = .ok (.lstore_n k, 1)) (hi : (k : Nat) = i) (hn : i + 1 < nL) (hlv : (i, Value.long x) :: lv.filter (fun q => !(q.1 == i) && (!(q.1 == i + 1) && !(q.1 + 1 == i && q.2.category == 2))) = lv')
    (kk : Gd p l e R s m args below meth c cells slots Q D cl A nL (pc + 1) w lv' st) : Gd p l e R s m args below meth c cells slots Q D cl A nL pc w lv (.long x :: st) := by
  intro H locs ls hP hD hS hl
  exact lv_lstore_n X.1 X.2.1 hdg hi hl hn hlv (fun ls hl => kk H locs ls hP hD hS hl)
theorem gd_lstore (X : gx p s m args c cc nL own Ts D cl tys A) {i : Nat} {x : Int64} {lv' : List (Nat × Value)} (hdg : decode cc pc = .ok (.lstore i, 2)) (hn : i + 1 < nL) (hlv : (i, Value.long x) :: lv.filter (fun q => !(q.1 == i) && (!(q.1 == i + 1) && !(q.1 + 1 == i && q.2.category == 2))) = lv')
    (kk : Gd p l e R s m args below meth c cells slots Q D cl A nL (pc + 2) w lv' st) : Gd p l e R s m args below meth c cells slots Q D cl A nL pc w lv (.long x :: st) := by
  intro H locs ls hP hD hS hl
  exact lv_lstore X.1 X.2.1 hdg hl hn hlv (fun ls hl => kk H locs ls hP hD hS hl)
theorem gd_topl {x y : Int64} (hxy : y = x) (kk : Gd p l e R s m args below meth c cells slots Q D cl A nL pc w lv (.long y :: st)) : Gd p l e R s m args below meth c cells slots Q D cl A nL pc w lv (.long x :: st) := by
  rw [← hxy]; exact kk
end GD
/-- the classes of the arrays -/
abbrev tyK (K : Nat → ClassId) : List (ClassId × FieldType) := [(K 0, .int), (K 1, .boolean), (K 2, .long)]
def TB : List Cond := lw_tbl.filter goodWord
theorem tb_of {c : Cond} (i : Nat) (h : lw_tbl[i]? = some c) (hg : goodWord c = true) : c ∈ TB := List.mem_filter.mpr ⟨List.mem_of_getElem? h, hg⟩
theorem gi_tb {c c' : Cond} (h : c' ∈ TB) : GoodIn (c :: TB) (c' :: TB) := by
  intro w hw
  have hm : w ∈ TB := by
    rcases List.mem_cons.mp hw with rfl | hw
    · exact h
    · exact hw
  exact ⟨List.mem_cons_of_mem _ hm, good_of_word (List.mem_filter.mp hm).2⟩
theorem gi_V {c c' : Cond} {own C : String} {idx : Nat} {y : MethodName} (h1 : Cond.methodLink own idx y ∈ TB) (h : (Cond.instanceMethod y ∈ TB ∧ Cond.selects C y y ∈ TB) ∧ Cond.initialized C ∈ TB ∧ c' ∈ TB) : GoodIn (c :: TB) (wsV own idx C y (c' :: TB)) := by
  intro w hw
  have hm : w ∈ TB := by
    rcases List.mem_append.mp hw with hw | hw
    · rcases List.mem_cons.mp hw with rfl | hw
      · exact h1
      · rcases List.mem_cons.mp hw with rfl | hw
        · exact h.1.1
        · rcases List.mem_cons.mp hw with rfl | hw
          · exact h.1.2
          · rcases List.mem_cons.mp hw with rfl | hw
            · exact h.2.1
            · cases hw
    · rcases List.mem_cons.mp hw with rfl | hw
      · exact h.2.2
      · exact hw
  exact ⟨List.mem_cons_of_mem _ hm, good_of_word (List.mem_filter.mp hm).2⟩
theorem gi_S {c c' : Cond} {own : String} {idx : Nat} {y : MethodName} (h1 : Cond.methodLink own idx y ∈ TB) (h : Cond.static y ∈ TB ∧ Cond.initialized y.cls ∈ TB ∧ c' ∈ TB) : GoodIn (c :: TB) (va_wsS own idx y (c' :: TB)) := by
  intro w hw
  have hm : w ∈ TB := by
    rcases List.mem_append.mp hw with hw | hw
    · rcases List.mem_cons.mp hw with rfl | hw
      · exact h1
      · rcases List.mem_cons.mp hw with rfl | hw
        · exact h.1
        · rcases List.mem_cons.mp hw with rfl | hw
          · exact h.2.1
          · cases hw
    · rcases List.mem_cons.mp hw with rfl | hw
      · exact h.2.2
      · exact hw
  exact ⟨List.mem_cons_of_mem _ hm, good_of_word (List.mem_filter.mp hm).2⟩
