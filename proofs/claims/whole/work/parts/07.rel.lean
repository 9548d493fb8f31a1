/-! how the abstract machine's frames stand for the machine's -/
def bg_cv (ad : Nat → Nat) : bg_V → Value
  | .inl x => .int (Int32.ofInt x)
  | .inr (.inl x) => .long (Int64.ofInt x)
  | .inr (.inr r) => va_rf (r.map ad)
def bg_fd (ad : Nat → Nat) (ci : Nat) (rs : List (Option Nat)) (g : Int → Int) (j : Nat) : Value := match bg_tg ci j with
  | 0 => .int (Int32.ofInt (g j))
  | 1 => .long (Int64.ofInt (g j))
  | 3 => .int (Int32.ofInt (g j))
  | _ => va_rf ((rs.getD j none).map ad)
def bg_ce (cy : Nat → ClassId) (ad : Nat → Nat) (c : bg_C) (g : Int → Int) : va_E :=
  if c.1 < 10 then .inr (c.1, (List.range c.2.1).map (bg_fd ad c.1 c.2.2 g))
  else .inl (cy c.1, c.2.1, if c.1 = 10 then .inl (fun j => Int32.ofInt (g j)) else if c.1 = 11 then .inr (.inl (fun j => Int64.ofInt (g j))) else .inr (.inr (.inr (.inr (fun j => (c.2.2.getD j none).map ad)))))
def bg_ws (cy : Nat → ClassId) (ad : Nat → Nat) (H : bg_H) : va_W := (List.range (H.1.length - 2)).map (fun i => (ad (i + 2), bg_ce cy ad (H.1.getD (i + 2) (0, 0, [])) (H.2 (i + 2))))
def bg_tys (cy : Nat → ClassId) : List (ClassId × FieldType) := [(cy 10, .int), (cy 11, .long), (cy 12, .object "BorderGuards$Land"), (cy 13, .object "BorderGuards$Lots"), (cy 14, .array .int), (cy 15, .array .long)]
def bg_vk (n : Nat) : bg_V → Prop
  | .inr (.inr (some r)) => r < n
  | _ => True
def bg_wf (H : bg_H) : Prop := (∃ L0, bg_nth H.1 0 = some (16, L0, []) ∧ L0 < 2 ^ 31 ∧ bg_nth H.1 1 = some (16, 7, [])) ∧
  ∀ k c, bg_nth H.1 k = some c → 2 ≤ k → c.1 < 16 ∧ c.2.1 < 2 ^ 31 ∧ (c.1 < 10 → ∃ C T, bg_cls[c.1]? = some (C, T, c.2.1)) ∧ (∀ j r, c.2.2.getD j none = some r → r < H.1.length) ∧ (12 ≤ c.1 ∨ c.1 < 10 → c.2.2.length = c.2.1)
def bg_ro (ad : Nat → Nat) (H : bg_H) (A : Nat → Prop) (s : State) : Prop :=
  (∀ L0, bg_nth H.1 0 = some (16, L0, []) → va_T .int (ad 0) L0 (fun j => .int (Int32.ofInt (H.2 0 j))) A s s.heap) ∧ va_T .int (ad 1) 7 (fun j => .int (Int32.ofInt (H.2 1 j))) A s s.heap ∧ va_Z "BorderGuards$Land" "PATH_LIMITS" "[I" (.ref (ad 1)) A s s.heap
def bg_rl (ad : Nat → Nat) (L : bg_L) (ls : Array Slot) (nL : Nat) : Prop := ls.size = nL ∧ lv_wf ls ∧ ∀ (j : Nat) (v : bg_V), bg_nth L j = some (some v) → ls[j]? = some (.val (bg_cv ad v))
/-- what has not changed since the entry -/
def bg_ex (E0 : (Nat → Nat) × bg_H) (ad : Nat → Nat) (Hh : bg_H) : Prop := (∀ k, k < E0.2.1.length → ad k = E0.1 k) ∧ E0.2.1.length ≤ Hh.1.length ∧ bg_nth Hh.1 0 = bg_nth E0.2.1 0 ∧ Hh.2 0 = E0.2.2 0 ∧ Hh.2 1 = E0.2.2 1
def bg_Re (s : State) (D : va_G) (cy : Nat → ClassId) (A : Nat → Prop) (E0 : (Nat → Nat) × bg_H) (nL : Nat) (L : bg_L) (st : List bg_V) (Hh : bg_H) (ad : Nat → Nat) (H : Heap) (locs : List Loc) (ls : Array Slot) : Prop :=
  va_P D bg_cls (bg_ws cy ad Hh) H ∧ va_D A (bg_ws cy ad Hh) ∧ va_S A s.heap H locs ∧ bg_rl ad L ls nL ∧ bg_wf Hh ∧ bg_ro ad Hh A s ∧ (∀ v ∈ st, bg_vk Hh.1.length v) ∧ (∀ (j : Nat) (v : bg_V), bg_nth L j = some (some v) → bg_vk Hh.1.length v) ∧ bg_ex E0 ad Hh
def bg_Sim (p : Program) (l : Launch) (e : Env) (R : Room) (s : State) (m : MethodId) (args : Array Value) (below : List Frame) (meth : Method) (c : Code) (Q : State → Prop) (D : va_G) (cy : Nat → ClassId) (A : Nat → Prop) (E0 : (Nat → Nat) × bg_H) (nL : Nat) (f : bg_F) : Prop := match f with
  | (pc, L, st, Hh, cn) => ∀ (ad : Nat → Nat) (H : Heap) (locs : List Loc) (ls : Array Slot), bg_Re s D cy A E0 nL L st Hh ad H locs ls → W p l e R s m args below meth c H locs cn.1 cn.2 Q (F0 m pc ls (st.map (bg_cv ad)))
def bg_AO (U : State) : Prop := ∀ ty ∈ [FieldType.object "BorderGuards$Land", .object "BorderGuards$Lots", .array .int, .array .long], (Cond.arrayOver ty).before #[] U = true
theorem bg_AO.moved {u U : State} (hvm : u.vm.Alike U.vm) (h : bg_AO u) : bg_AO U := fun ty hty => (Cond.arrayOver_setVmC (args := #[]) hvm ty).trans (h ty hty)
def bg_Cx (p : Program) (s : State) (m : MethodId) (args : Array Value) (meth : Method) (c : Code) (D : va_G) (cy : Nat → ClassId) (A : Nat → Prop) (M : bg_M) : Prop :=
  p.tables.exec = Jvm.exec ∧ c.code = M.2.1 ∧ c.maxLocals = M.2.2.1 ∧ s.vm.findClass M.1.cls = some m.cls ∧ (∀ w ∈ bg_tbl, w.before args s = true) ∧ va_K D bg_cls (bg_tys cy) s ∧ (∀ q, s.heap.size ≤ q → A q) ∧ meth.name = M.1.name ∧ bg_AO s
-- lists of cells
theorem bg_ws_len (cy : Nat → ClassId) (ad : Nat → Nat) (H : bg_H) : (bg_ws cy ad H).length = H.1.length - 2 := by simp [bg_ws]
theorem bg_nth_lt {α : Type} {l : List α} {k : Nat} {a : α} (h : bg_nth l k = some a) : k < l.length := by
  rw [bg_nth_eq] at h
  exact (List.getElem?_eq_some_iff.mp h).1
theorem bg_ws_at {cy : Nat → ClassId} {ad : Nat → Nat} {H : bg_H} {k : Nat} {c : bg_C} (h : bg_nth H.1 k = some c) (hk : 2 ≤ k) : (bg_ws cy ad H)[k - 2]? = some (ad k, bg_ce cy ad c (H.2 k)) := by
  have hl := bg_nth_lt h
  rw [bg_nth_eq] at h
  have e : k - 2 + 2 = k := by omega
  simp [bg_ws, List.getElem?_map, List.getElem?_range (show k - 2 < H.1.length - 2 by omega), e, List.getD_eq_getElem?_getD, h]
theorem bg_ws_eq {cy : Nat → ClassId} {ad : Nat → Nat} {H : bg_H} {w : va_W} (hl : w.length = H.1.length - 2) (h : ∀ k c, bg_nth H.1 k = some c → 2 ≤ k → w[k - 2]? = some (ad k, bg_ce cy ad c (H.2 k))) : w = bg_ws cy ad H := by
  apply List.ext_getElem?
  intro i
  by_cases hi : i < H.1.length - 2
  · have hk : i + 2 < H.1.length := by omega
    have e : bg_nth H.1 (i + 2) = some H.1[i + 2] := by rw [bg_nth_eq]; exact List.getElem?_eq_getElem hk
    have h1 := h (i + 2) _ e (by omega)
    have h2 := bg_ws_at (cy := cy) (ad := ad) e (by omega)
    rw [show i + 2 - 2 = i by omega] at h1 h2
    rw [h1, h2]
  · rw [List.getElem?_eq_none (by omega), List.getElem?_eq_none (by rw [bg_ws_len]; omega)]
/-- one cell's numbers change -/
theorem bg_ws_up {cy : Nat → ClassId} {ad : Nat → Nat} {H : bg_H} {k : Nat} {c : bg_C} {g : bg_G} (h : bg_nth H.1 k = some c) (hk : 2 ≤ k) (hg : ∀ k', k' ≠ k → g k' = H.2 k') : (bg_ws cy ad H).set (k - 2) (ad k, bg_ce cy ad c (g k)) = bg_ws cy ad (H.1, g) := by
  refine bg_ws_eq (by simp [bg_ws_len]) fun k' c' hc' hk' => ?_
  by_cases e : k' = k
  · subst e
    have : c' = c := Option.some.inj (hc'.symm.trans h)
    subst this
    rw [List.getElem?_set_self (by rw [bg_ws_len]; have := bg_nth_lt h; omega)]
  · rw [List.getElem?_set_ne (by omega), bg_ws_at (H := H) hc' hk']
    simp [hg k' e]
/-- one cell's references change -/
theorem bg_ws_rf {cy : Nat → ClassId} {ad : Nat → Nat} {H : bg_H} {k : Nat} {c c2 : bg_C} (h : bg_nth H.1 k = some c) (hk : 2 ≤ k) : (bg_ws cy ad H).set (k - 2) (ad k, bg_ce cy ad c2 (H.2 k)) = bg_ws cy ad (H.1.set k c2, H.2) := by
  have hl := bg_nth_lt h
  refine bg_ws_eq (by simp [bg_ws_len]) fun k' c' hc' hk' => ?_
  rw [bg_nth_eq] at hc'
  by_cases e : k' = k
  · subst e
    rw [List.getElem?_set_self (by rw [bg_ws_len]; omega)]
    simp only [List.getElem?_set_self hl] at hc'
    cases hc'
    rfl
  · simp only [List.getElem?_set_ne (fun q => e q.symm)] at hc'
    rw [List.getElem?_set_ne (by omega)]
    exact bg_ws_at (H := H) (by rw [bg_nth_eq]; exact hc') hk'
theorem bg_rl_has {ad : Nat → Nat} {L : bg_L} {ls : Array Slot} {nL : Nat} (h : bg_rl ad L ls nL) : lv_has ls nL ((List.range L.length).filterMap (fun j => match bg_nth L j with | some (some v) => some (j, bg_cv ad v) | _ => none)) := by
  refine ⟨h.1, h.2.1, fun q hq => ?_⟩
  obtain ⟨j, -, hj⟩ := List.mem_filterMap.mp hq
  split at hj
  · rename_i v hv
    cases hj
    exact h.2.2 j v hv
  · cases hj
theorem bg_rl_mem {ad : Nat → Nat} {L : bg_L} {j : Nat} {v : bg_V} (h : bg_nth L j = some (some v)) : (j, bg_cv ad v) ∈ (List.range L.length).filterMap (fun j => match bg_nth L j with | some (some v) => some (j, bg_cv ad v) | _ => none) := by
  refine List.mem_filterMap.mpr ⟨j, List.mem_range.mpr (bg_nth_lt h), ?_⟩
  rw [h]
def bg_lng : bg_V → Prop
  | .inr (.inl _) => True
  | _ => False
theorem bg_cat {ad : Nat → Nat} {v : bg_V} (h : ¬ bg_lng v) : ¬ (bg_cv ad v).category = 2 := by
  match v, h with
  | .inl x, _ => simp [bg_cv, Value.category]
  | .inr (.inl x), h => exact absurd trivial h
  | .inr (.inr none), _ => simp [bg_cv, va_rf, Value.category]
  | .inr (.inr (some r)), _ => simp [bg_cv, va_rf, Value.category]
theorem bg_clr_some {o : Option bg_V} {v : bg_V} (h : bg_clr o = some v) : o = some v ∧ ¬ bg_lng v := by
  match o, h with
  | some (.inl x), h => simp [bg_clr] at h; subst h; exact ⟨rfl, id⟩
  | some (.inr (.inl x)), h => simp [bg_clr] at h
  | some (.inr (.inr r)), h => simp [bg_clr] at h; subst h; exact ⟨rfl, id⟩
  | none, h => simp [bg_clr] at h
theorem bg_sto_nth : ∀ (L : bg_L) (i j : Nat) (x v : bg_V), bg_nth (bg_sto L i x) j = some (some v) → (j = i ∧ v = x) ∨ (j ≠ i ∧ bg_nth L j = some (some v) ∧ ¬ (j + 1 = i ∧ bg_lng v))
  | [], i, j, x, v, h => by simp [bg_sto, bg_nth] at h
  | a :: l, 0, 0, x, v, h => by simp [bg_sto, bg_nth] at h; exact Or.inl ⟨rfl, h.symm⟩
  | a :: l, 0, j + 1, x, v, h => by simp [bg_sto, bg_nth] at h; exact Or.inr ⟨by omega, by simpa [bg_nth] using h, by omega⟩
  | a :: l, 1, 0, x, v, h => by
    simp [bg_sto, bg_nth] at h
    have := bg_clr_some h
    exact Or.inr ⟨by omega, by simp [bg_nth, this.1], fun q => this.2 q.2⟩
  | a :: l, 1, j + 1, x, v, h => by
    simp only [bg_sto, bg_nth] at h
    rcases bg_sto_nth l 0 j x v h with ⟨a1, a2⟩ | ⟨a1, a2, a3⟩
    · exact Or.inl ⟨by omega, a2⟩
    · exact Or.inr ⟨by omega, by simpa [bg_nth] using a2, by omega⟩
  | a :: l, n + 2, 0, x, v, h => by
    simp only [bg_sto, bg_nth] at h
    exact Or.inr ⟨by omega, by simpa [bg_nth] using h, by omega⟩
  | a :: l, n + 2, j + 1, x, v, h => by
    simp only [bg_sto, bg_nth] at h
    rcases bg_sto_nth l (n + 1) j x v h with ⟨a1, a2⟩ | ⟨a1, a2, a3⟩
    · exact Or.inl ⟨by omega, a2⟩
    · exact Or.inr ⟨by omega, by simpa [bg_nth] using a2, fun q => a3 ⟨by omega, q.2⟩⟩
theorem bg_sto2_nth : ∀ (L : bg_L) (i j : Nat) (x v : bg_V), bg_nth (bg_sto2 L i x) j = some (some v) → (j = i ∧ v = x) ∨ (j ≠ i ∧ j ≠ i + 1 ∧ bg_nth L j = some (some v) ∧ ¬ (j + 1 = i ∧ bg_lng v))
  | [], 0, j, x, v, h => by simp [bg_sto2, bg_nth] at h
  | [], 1, j, x, v, h => by simp [bg_sto2, bg_nth] at h
  | [], n + 2, j, x, v, h => by simp [bg_sto2, bg_nth] at h
  | [a], 0, j, x, v, h => by simp [bg_sto2, bg_nth] at h
  | a :: b :: l, 0, 0, x, v, h => by simp [bg_sto2, bg_nth] at h; exact Or.inl ⟨rfl, h.symm⟩
  | a :: b :: l, 0, 1, x, v, h => by simp [bg_sto2, bg_nth] at h
  | a :: b :: l, 0, j + 2, x, v, h => by
    simp only [bg_sto2, bg_nth] at h
    exact Or.inr ⟨by omega, by omega, by simpa [bg_nth] using h, by omega⟩
  | a :: l, 1, 0, x, v, h => by
    simp [bg_sto2, bg_nth] at h
    have := bg_clr_some h
    exact Or.inr ⟨by omega, by omega, by simp [bg_nth, this.1], fun q => this.2 q.2⟩
  | a :: l, 1, j + 1, x, v, h => by
    simp only [bg_sto2, bg_nth] at h
    rcases bg_sto2_nth l 0 j x v h with ⟨a1, a2⟩ | ⟨a1, a0, a2, a3⟩
    · exact Or.inl ⟨by omega, a2⟩
    · exact Or.inr ⟨by omega, by omega, by simpa [bg_nth] using a2, by omega⟩
  | a :: l, n + 2, 0, x, v, h => by
    simp only [bg_sto2, bg_nth] at h
    exact Or.inr ⟨by omega, by omega, by simpa [bg_nth] using h, by omega⟩
  | a :: l, n + 2, j + 1, x, v, h => by
    simp only [bg_sto2, bg_nth] at h
    rcases bg_sto2_nth l (n + 1) j x v h with ⟨a1, a2⟩ | ⟨a1, a0, a2, a3⟩
    · exact Or.inl ⟨by omega, a2⟩
    · exact Or.inr ⟨by omega, by omega, by simpa [bg_nth] using a2, fun q => a3 ⟨by omega, q.2⟩⟩
theorem bg_rl_sto {ad : Nat → Nat} {L : bg_L} {ls ls' : Array Slot} {nL i : Nat} {x : bg_V} (h : bg_rl ad L ls nL) (h' : lv_has ls' nL ((i, bg_cv ad x) :: ((List.range L.length).filterMap (fun j => match bg_nth L j with | some (some v) => some (j, bg_cv ad v) | _ => none)).filter (fun q => !(q.1 == i) && !(q.1 + 1 == i && q.2.category == 2)))) : bg_rl ad (bg_sto L i x) ls' nL := by
  refine ⟨h'.1, h'.2.1, fun j v hj => ?_⟩
  rcases bg_sto_nth L i j x v hj with ⟨rfl, rfl⟩ | ⟨a1, a2, a3⟩
  · exact h'.2.2 (j, bg_cv ad v) List.mem_cons_self
  · refine h'.2.2 (j, bg_cv ad v) (List.mem_cons_of_mem _ (List.mem_filter.mpr ⟨bg_rl_mem a2, ?_⟩))
    by_cases e : j + 1 = i
    · have := bg_cat (ad := ad) (fun q => a3 ⟨e, q⟩)
      simp [a1, this]
    · simp [a1, e]
theorem bg_rl_sto2 {ad : Nat → Nat} {L : bg_L} {ls ls' : Array Slot} {nL i : Nat} {x : bg_V} (h : bg_rl ad L ls nL) (h' : lv_has ls' nL ((i, bg_cv ad x) :: ((List.range L.length).filterMap (fun j => match bg_nth L j with | some (some v) => some (j, bg_cv ad v) | _ => none)).filter (fun q => !(q.1 == i) && (!(q.1 == i + 1) && !(q.1 + 1 == i && q.2.category == 2))))) : bg_rl ad (bg_sto2 L i x) ls' nL := by
  refine ⟨h'.1, h'.2.1, fun j v hj => ?_⟩
  rcases bg_sto2_nth L i j x v hj with ⟨rfl, rfl⟩ | ⟨a1, a0, a2, a3⟩
  · exact h'.2.2 (j, bg_cv ad v) List.mem_cons_self
  · refine h'.2.2 (j, bg_cv ad v) (List.mem_cons_of_mem _ (List.mem_filter.mpr ⟨bg_rl_mem a2, ?_⟩))
    by_cases e : j + 1 = i
    · have := bg_cat (ad := ad) (fun q => a3 ⟨e, q⟩)
      simp [a1, a0, this]
    · simp [a1, a0, e]
theorem bg_sto_vk {L : bg_L} {n i : Nat} {x : bg_V} (hx : bg_vk n x) (h : ∀ (j : Nat) (v : bg_V), bg_nth L j = some (some v) → bg_vk n v) (j : Nat) (v : bg_V) (hj : bg_nth (bg_sto L i x) j = some (some v)) : bg_vk n v := by
  rcases bg_sto_nth L i j x v hj with ⟨-, rfl⟩ | ⟨-, a2, -⟩
  · exact hx
  · exact h j v a2
theorem bg_sto2_vk {L : bg_L} {n i : Nat} {x : bg_V} (hx : bg_vk n x) (h : ∀ (j : Nat) (v : bg_V), bg_nth L j = some (some v) → bg_vk n v) (j : Nat) (v : bg_V) (hj : bg_nth (bg_sto2 L i x) j = some (some v)) : bg_vk n v := by
  rcases bg_sto2_nth L i j x v hj with ⟨-, rfl⟩ | ⟨-, -, a2, -⟩
  · exact hx
  · exact h j v a2
