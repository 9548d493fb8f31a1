/-! instructions that read and write cells -/
theorem bg_cls_in : ∀ (a : Nat) (C : String) (T : u_T) (N : Nat), bg_nth bg_cls a = some (C, T, N) → (∀ w ∈ u_ws C T N, w ∈ bg_tbl) ∧ (∀ b, b < N → (T b).1 = C) ∧ (∀ x, x < N → ∀ y, y < N → x ≠ y → (T x).2.1 ≠ (T y).2.1) ∧ a < 10
  | 0, _, _, _, h => by cases h; exact ⟨bg_jn0, by decide, bg_nm0, by decide⟩
  | 1, _, _, _, h => by cases h; exact ⟨bg_jn1, by decide, bg_nm1, by decide⟩
  | 2, _, _, _, h => by cases h; exact ⟨bg_jn2, by decide, bg_nm2, by decide⟩
  | 3, _, _, _, h => by cases h; exact ⟨bg_jn3, by decide, bg_nm3, by decide⟩
  | 4, _, _, _, h => by cases h; exact ⟨bg_jn4, by decide, bg_nm4, by decide⟩
  | 5, _, _, _, h => by cases h; exact ⟨bg_jn5, by decide, bg_nm5, by decide⟩
  | 6, _, _, _, h => by cases h; exact ⟨bg_jn6, by decide, bg_nm6, by decide⟩
  | 7, _, _, _, h => by cases h; exact ⟨bg_jn7, by decide, bg_nm7, by decide⟩
  | 8, _, _, _, h => by cases h; exact ⟨bg_jn8, by decide, bg_nm8, by decide⟩
  | 9, _, _, _, h => by cases h; exact ⟨bg_jn9, by decide, bg_nm9, by decide⟩
  | n + 10, _, _, _, h => by simp [bg_nth] at h
/-- the fields' types by their kinds -/
def bg_tyOf : Nat → Nat → FieldType := fun a => match a with
  | 0 => bg_ty0 | 1 => bg_ty1 | 2 => bg_ty2 | 3 => bg_ty3 | 4 => bg_ty4 | 5 => bg_ty5 | 6 => bg_ty6 | 7 => bg_ty7 | 8 => bg_ty8 | _ => bg_ty9
theorem bg_cls_ty : ∀ (a : Nat) (C : String) (T : u_T) (N : Nat), bg_nth bg_cls a = some (C, T, N) → (∀ k, k < N → parseFieldDescriptor (T k).2.2.1 = some (bg_tyOf a k))
  | 0, _, _, _, h => by cases h; exact bg_tk0
  | 1, _, _, _, h => by cases h; exact bg_tk1
  | 2, _, _, _, h => by cases h; exact bg_tk2
  | 3, _, _, _, h => by cases h; exact bg_tk3
  | 4, _, _, _, h => by cases h; exact bg_tk4
  | 5, _, _, _, h => by cases h; exact bg_tk5
  | 6, _, _, _, h => by cases h; exact bg_tk6
  | 7, _, _, _, h => by cases h; exact bg_tk7
  | 8, _, _, _, h => by cases h; exact bg_tk8
  | 9, _, _, _, h => by cases h; exact bg_tk9
  | n + 10, _, _, _, h => by simp [bg_nth] at h
def bg_tyt (t : Nat) (ty : FieldType) : Bool := match t, ty with
  | 0, .int => true
  | 1, .long => true
  | 2, .object _ => true
  | 2, .array _ => true
  | 3, .boolean => true
  | _, _ => false
theorem bg_cls_tg : ∀ (a : Nat) (C : String) (T : u_T) (N : Nat), bg_nth bg_cls a = some (C, T, N) → (∀ k, k < N → bg_tyt (bg_tg a k) (bg_tyOf a k) = true)
  | 0, _, _, _, h => by cases h; decide
  | 1, _, _, _, h => by cases h; decide
  | 2, _, _, _, h => by cases h; decide
  | 3, _, _, _, h => by cases h; decide
  | 4, _, _, _, h => by cases h; decide
  | 5, _, _, _, h => by cases h; decide
  | 6, _, _, _, h => by cases h; decide
  | 7, _, _, _, h => by cases h; decide
  | 8, _, _, _, h => by cases h; decide
  | 9, _, _, _, h => by cases h; decide
  | n + 10, _, _, _, h => by simp [bg_nth] at h
theorem bg_wf.ge {H : bg_H} (h : bg_wf H) {k : Nat} {c : bg_C} (hc : bg_nth H.1 k = some c) (h16 : c.1 < 16) : 2 ≤ k := by
  obtain ⟨⟨L0, h0, -, h1⟩, -⟩ := h
  match k, hc with
  | 0, hc => rw [h0] at hc; cases hc; exact absurd h16 (Nat.lt_irrefl 16)
  | 1, hc => rw [h1] at hc; cases hc; exact absurd h16 (Nat.lt_irrefl 16)
  | k + 2, _ => omega
theorem bg_wf.lt {H : bg_H} (h : bg_wf H) {k : Nat} {c : bg_C} (hc : bg_nth H.1 k = some c) (h16 : c.1 = 16) : k < 2 := by
  rcases Nat.lt_or_ge k 2 with h2 | h2
  · exact h2
  · have := (h.2 k c hc h2).1
    omega
theorem bg_wf.two {H : bg_H} (h : bg_wf H) : 2 ≤ H.1.length := by
  obtain ⟨⟨L0, h0, -, h1⟩, -⟩ := h
  exact bg_nth_lt h1
theorem bg_map_set {α : Type} (F F' : Nat → α) (N b : Nat) (v : α) (h1 : F' b = v) (h2 : ∀ j, j ≠ b → F' j = F j) : ((List.range N).map F).set b v = (List.range N).map F' := by
  apply List.ext_getElem?
  intro j
  by_cases hj : j < N
  · by_cases e : j = b
    · subst e
      rw [List.getElem?_set_self (by simpa using hj), List.getElem?_map, List.getElem?_range hj, Option.map_some, h1]
    · rw [List.getElem?_set_ne (fun q => e q.symm), List.getElem?_map, List.getElem?_map, List.getElem?_range hj, Option.map_some, Option.map_some, h2 j e]
  · rw [List.getElem?_eq_none (by simp; omega), List.getElem?_eq_none (by simp; omega)]
theorem bg_idx (i : Int) : (Int32.ofInt i).toNatClampNeg = (bg_w i).toNat := rfl
theorem bg_vin {i : Int} {n : Nat} (h : 0 ≤ bg_w i ∧ bg_w i < n) : vp_in (Int32.ofInt i) n := vp_in_iff.mpr h
section BgH
variable {p : Program} {l : Launch} {e : Env} {R : Room} {s : State} {m : MethodId} {args : Array Value} {below : List Frame} {meth : Method} {c : Code} {Q : State → Prop} {D : va_G} {cy : Nat → ClassId} {A : Nat → Prop} {M : bg_M} {E0 : (Nat → Nat) × bg_H}
variable {pc nx : Nat} {L : bg_L} {st r : List bg_V} {Hh : bg_H} {cn : Nat × Nat}
theorem bg_Re.heap {nL : Nat} {st2 : List bg_V} {g : bg_G} {ad : Nat → Nat} {H H1 : Heap} {locs locs1 : List Loc} {ls : Array Slot} (h : bg_Re s D cy A E0 nL L st Hh ad H locs ls) (h0 : g 0 = Hh.2 0) (h1 : g 1 = Hh.2 1) (hP : va_P D bg_cls (bg_ws cy ad (Hh.1, g)) H1) (hD : va_D A (bg_ws cy ad (Hh.1, g))) (hS : va_S A s.heap H1 locs1) (h2 : ∀ v ∈ st2, bg_vk Hh.1.length v) : bg_Re s D cy A E0 nL L st2 (Hh.1, g) ad H1 locs1 ls := by
  obtain ⟨a1, a2, a3, a4, a5, a6, a7, a8, x1, x2, x3, x4, x5⟩ := h
  refine ⟨hP, hD, hS, a4, a5, ?_, h2, a8, x1, x2, x3, h0.trans x4, h1.trans x5⟩
  unfold bg_ro at a6 ⊢
  simp only [h0, h1]
  exact a6
theorem bg_Re.refs {nL k : Nat} {st2 : List bg_V} {c0 c2 : bg_C} {ad : Nat → Nat} {H H1 : Heap} {locs locs1 : List Loc} {ls : Array Slot} (h : bg_Re s D cy A E0 nL L st Hh ad H locs ls) (hc : bg_nth Hh.1 k = some c0) (hk : 2 ≤ k) (he : c2.1 = c0.1 ∧ c2.2.1 = c0.2.1 ∧ c2.2.2.length = c0.2.2.length) (hr : ∀ j x, c2.2.2.getD j none = some x → x < Hh.1.length) (hP : va_P D bg_cls (bg_ws cy ad (Hh.1.set k c2, Hh.2)) H1) (hD : va_D A (bg_ws cy ad (Hh.1.set k c2, Hh.2))) (hS : va_S A s.heap H1 locs1) (h2 : ∀ v ∈ st2, bg_vk Hh.1.length v) : bg_Re s D cy A E0 nL L st2 (Hh.1.set k c2, Hh.2) ad H1 locs1 ls := by
  obtain ⟨a1, a2, a3, a4, ⟨⟨L0, b0, bL, b1⟩, b2⟩, a6, a7, a8, x1, x2, x3, x4, x5⟩ := h
  have n0 : bg_nth (Hh.1.set k c2) 0 = bg_nth Hh.1 0 := by rw [bg_nth_eq, bg_nth_eq, List.getElem?_set_ne (by omega)]
  have n1 : bg_nth (Hh.1.set k c2) 1 = bg_nth Hh.1 1 := by rw [bg_nth_eq, bg_nth_eq, List.getElem?_set_ne (by omega)]
  refine ⟨hP, hD, hS, a4, ⟨⟨L0, by rw [n0]; exact b0, bL, by rw [n1]; exact b1⟩, fun k' c' hc' hk' => ?_⟩, ?_, by simpa using h2, by simpa using a8, x1, by simpa using x2, by rw [n0]; exact x3, x4, x5⟩
  · rw [bg_nth_eq] at hc'
    by_cases ek : k' = k
    · subst ek
      simp only [List.getElem?_set_self (bg_nth_lt hc)] at hc'
      cases hc'
      obtain ⟨d1, d2, d3, d4, d5⟩ := b2 k' c0 hc hk
      obtain ⟨e1, e2, e3⟩ := he
      exact ⟨by rw [e1]; exact d1, by rw [e2]; exact d2, by rw [e1, e2]; exact d3, by simpa using hr, by rw [e1, e2, e3]; exact d5⟩
    · simp only [List.getElem?_set_ne (fun q => ek q.symm)] at hc'
      obtain ⟨d1, d2, d3, d4, d5⟩ := b2 k' c' (by rw [bg_nth_eq]; exact hc') hk'
      exact ⟨d1, d2, d3, by simpa using d4, d5⟩
  · unfold bg_ro at a6 ⊢
    simp only [n0]
    exact a6
theorem bg_obj {nL k : Nat} {c0 : bg_C} {ad : Nat → Nat} {H : Heap} {locs : List Loc} {ls : Array Slot} (h : bg_Re s D cy A E0 nL L st Hh ad H locs ls) (hc : bg_nth Hh.1 k = some c0) (hk : 2 ≤ k) (h10 : c0.1 < 10) : (bg_ws cy ad Hh)[k - 2]? = some (ad k, .inr (c0.1, (List.range c0.2.1).map (bg_fd ad c0.1 c0.2.2 (Hh.2 k)))) := by
  rw [bg_ws_at hc hk]
  simp [bg_ce, h10]
theorem bg_arr {nL k : Nat} {c0 : bg_C} {ad : Nat → Nat} {H : Heap} {locs : List Loc} {ls : Array Slot} (h : bg_Re s D cy A E0 nL L st Hh ad H locs ls) (hc : bg_nth Hh.1 k = some c0) (hk : 2 ≤ k) (h10 : ¬ c0.1 < 10) : (bg_ws cy ad Hh)[k - 2]? = some (ad k, .inl (cy c0.1, c0.2.1, if c0.1 = 10 then .inl (fun j => Int32.ofInt (Hh.2 k j)) else if c0.1 = 11 then .inr (.inl (fun j => Int64.ofInt (Hh.2 k j))) else .inr (.inr (.inr (.inr (fun j => (c0.2.2.getD j none).map ad)))))) := by
  rw [bg_ws_at hc hk]
  simp [bg_ce, h10]
theorem sm_getfield (hC : bg_Cx p s m args meth c D cy A M) {k i b : Nat} {c0 : bg_C} {C : String} {T : u_T} {N : Nat} {v : bg_V} (hd : decode M.2.1 pc = .ok (.getfield i, 3)) (hc : bg_nth Hh.1 k = some c0) (hcl : bg_nth bg_cls c0.1 = some (C, T, N)) (hb : b < N) (hw : Cond.fieldLink M.1.cls i C (T b).2.1 (T b).2.2.1 ∈ bg_tbl) (hv : ∀ ad : Nat → Nat, bg_fd ad c0.1 c0.2.2 (Hh.2 k) b = bg_cv ad v) (hvk : bg_wf Hh → 2 ≤ k → bg_vk Hh.1.length v) (hk : bg_Sim p l e R s m args below meth c Q D cy A E0 M.2.2.1 (pc + 3, L, v :: r, Hh, cn)) : bg_Sim p l e R s m args below meth c Q D cy A E0 M.2.2.1 (pc, L, .inr (.inr (some k)) :: r, Hh, cn) := by
  intro ad H locs ls h
  obtain ⟨q1, q2, q3, q4⟩ := bg_cls_in _ _ _ _ hcl
  have hwf := h.2.2.2.2.1
  have h2 : 2 ≤ k := hwf.ge hc (by omega)
  have hN : c0.2.1 = N := by
    obtain ⟨C', T', h3⟩ := (hwf.2 k c0 hc h2).2.2.1 q4
    rw [bg_nth_eq] at hcl
    rw [h3] at hcl
    cases hcl
    rfl
  refine va_get hC.1 hC.2.1 hC.2.2.2.2.1 q1 hC.2.2.2.1 hC.2.2.2.2.2.1 h.1 (k - 2) (bg_obj h hc h2 q4) (by rw [← bg_nth_eq]; exact hcl) b hb (hC.2.2.2.2.1 _ hw) (fun x hx => by rw [q2 b hb] at hx; exact hx) (v := bg_cv ad v) ?_ hd (hk ad H locs ls (h.stk (bg_vk2 (hvk hwf h2) (bg_tl h.vk))))
  rw [List.getElem?_map, List.getElem?_range (by omega), Option.map_some, hv ad]
theorem sm_putnum (hC : bg_Cx p s m args meth c D cy A M) {k i b : Nat} {c0 : bg_C} {C : String} {T : u_T} {N : Nat} {x : Int} {v : bg_V} {ty : FieldType} (hd : decode M.2.1 pc = .ok (.putfield i, 3)) (hc : bg_nth Hh.1 k = some c0) (hcl : bg_nth bg_cls c0.1 = some (C, T, N)) (hb : b < N) (hw : Cond.fieldLink M.1.cls i C (T b).2.1 (T b).2.2.1 ∈ bg_tbl)
    (hfin : (T b).2.2.2 = false ∨ (M.1.name = "<init>" ∧ (T b).1 = M.1.cls)) (hty : bg_tyOf c0.1 b = ty) (hn : ∀ ad : Nat → Nat, narrow ty (bg_cv ad v) = bg_cv ad v) (hf : ∀ ad : Nat → Nat, fits ty (bg_cv ad v) = true) (hvv : ∀ (ad : Nat → Nat) (g : Int → Int), g b = x → bg_fd ad c0.1 c0.2.2 g b = bg_cv ad v)
    (hk : bg_Sim p l e R s m args below meth c Q D cy A E0 M.2.2.1 (pc + 3, L, r, (Hh.1, bg_up Hh.2 k b x), cn)) : bg_Sim p l e R s m args below meth c Q D cy A E0 M.2.2.1 (pc, L, v :: .inr (.inr (some k)) :: r, Hh, cn) := by
  intro ad H locs ls h
  obtain ⟨q1, q2, q3, q4⟩ := bg_cls_in _ _ _ _ hcl
  have hwf := h.2.2.2.2.1
  have h2 : 2 ≤ k := hwf.ge hc (by omega)
  have hN : c0.2.1 = N := by
    obtain ⟨C', T', h3⟩ := (hwf.2 k c0 hc h2).2.2.1 q4
    rw [bg_nth_eq] at hcl
    rw [h3] at hcl
    cases hcl
    rfl
  have hset : ((bg_ws cy ad Hh).set (k - 2) (ad k, .inr (c0.1, ((List.range c0.2.1).map (bg_fd ad c0.1 c0.2.2 (Hh.2 k))).set b (bg_cv ad v)))) = bg_ws cy ad (Hh.1, bg_up Hh.2 k b x) := by
    rw [bg_map_set _ (bg_fd ad c0.1 c0.2.2 (bg_up Hh.2 k b x k)) _ _ _ (hvv ad _ (by simp [bg_up])) (fun j hj => ?_)]
    · rw [← bg_ws_up hc h2 (g := bg_up Hh.2 k b x) (fun k' hk' => by funext j; simp [bg_up, hk'])]
      simp [bg_ce, q4]
    · unfold bg_fd
      have : (bg_up Hh.2 k b x k (j : Int)) = Hh.2 k j := by simp [bg_up]; omega
      rw [this]
  have g0 : bg_up Hh.2 k b x 0 = Hh.2 0 := by funext j; simp [bg_up]; omega
  have g1 : bg_up Hh.2 k b x 1 = Hh.2 1 := by funext j; simp [bg_up]; omega
  have hdd := bg_cls_ty _ _ _ _ hcl b hb
  rw [hty] at hdd
  cases hff : (T b).2.2.2 with
  | false =>
    refine va_put hC.1 hC.2.1 hC.2.2.2.2.1 q1 _ (bg_cls_ty _ _ _ _ hcl) q3 hC.2.2.2.1 hC.2.2.2.2.2.1 h.1 h.2.1 h.2.2.1 (k - 2) (bg_obj h hc h2 q4) (by rw [← bg_nth_eq]; exact hcl) b hb (hC.2.2.2.2.1 _ hw) (fun x hx => by rw [q2 b hb] at hx; exact hx) hff hdd (hn ad) (hf ad) (by simp; omega) hd (fun H1 locs1 hP hD hS => ?_)
    rw [hset] at hP hD
    exact hk ad H1 locs1 ls (h.heap g0 g1 hP hD hS (bg_tl (bg_tl h.vk)))
  | true =>
    obtain ⟨hn1, hn2⟩ : M.1.name = "<init>" ∧ (T b).1 = M.1.cls := hfin.resolve_left (by rw [hff]; decide)
    refine va_putF (own := M.1.cls) hC.1 hC.2.1 hC.2.2.2.2.1 q1 _ (bg_cls_ty _ _ _ _ hcl) q3 hC.2.2.2.1 hC.2.2.2.2.2.1 h.1 h.2.1 h.2.2.1 (k - 2) (bg_obj h hc h2 q4) (by rw [← bg_nth_eq]; exact hcl) b hb (hC.2.2.2.2.1 _ hw) (fun x hx => by rw [q2 b hb] at hx; exact hx) hff (hC.2.2.2.2.2.2.2.1.trans hn1) hn2 hdd (hn ad) (hf ad) (by simp; omega) hd (fun H1 locs1 hP hD hS => ?_)
    rw [hset] at hP hD
    exact hk ad H1 locs1 ls (h.heap g0 g1 hP hD hS (bg_tl (bg_tl h.vk)))
theorem bg_getD_set {α : Type} (l : List (Option α)) (b j : Nat) (o : Option α) : (l.set b o).getD j none = if j = b ∧ b < l.length then o else l.getD j none := by
  rw [List.getD_eq_getElem?_getD, List.getD_eq_getElem?_getD]
  by_cases hb : b < l.length
  · by_cases e : j = b
    · subst e
      simp [hb]
    · rw [List.getElem?_set_ne (fun q => e q.symm)]
      simp [e]
  · rw [List.set_eq_of_length_le (by omega)]
    simp [hb]
theorem sm_putref (hC : bg_Cx p s m args meth c D cy A M) {k i b : Nat} {c0 : bg_C} {C : String} {T : u_T} {N : Nat} {o : Option Nat} (hd : decode M.2.1 pc = .ok (.putfield i, 3)) (hc : bg_nth Hh.1 k = some c0) (hcl : bg_nth bg_cls c0.1 = some (C, T, N)) (hb : b < N) (hw : Cond.fieldLink M.1.cls i C (T b).2.1 (T b).2.2.1 ∈ bg_tbl)
    (hfin : (T b).2.2.2 = false ∨ (M.1.name = "<init>" ∧ (T b).1 = M.1.cls)) (htg : bg_tg c0.1 b = 2) (hbl : b < c0.2.2.length)
    (hk : bg_Sim p l e R s m args below meth c Q D cy A E0 M.2.2.1 (pc + 3, L, r, (Hh.1.set k (c0.1, c0.2.1, c0.2.2.set b o), Hh.2), cn)) : bg_Sim p l e R s m args below meth c Q D cy A E0 M.2.2.1 (pc, L, .inr (.inr o) :: .inr (.inr (some k)) :: r, Hh, cn) := by
  intro ad H locs ls h
  obtain ⟨q1, q2, q3, q4⟩ := bg_cls_in _ _ _ _ hcl
  have hwf := h.2.2.2.2.1
  have h2 : 2 ≤ k := hwf.ge hc (by omega)
  have hN : c0.2.1 = N := by
    obtain ⟨C', T', h3⟩ := (hwf.2 k c0 hc h2).2.2.1 q4
    rw [bg_nth_eq] at hcl
    rw [h3] at hcl
    cases hcl
    rfl
  have hset : ((bg_ws cy ad Hh).set (k - 2) (ad k, .inr (c0.1, ((List.range c0.2.1).map (bg_fd ad c0.1 c0.2.2 (Hh.2 k))).set b (bg_cv ad (.inr (.inr o)))))) = bg_ws cy ad (Hh.1.set k (c0.1, c0.2.1, c0.2.2.set b o), Hh.2) := by
    rw [bg_map_set _ (bg_fd ad c0.1 (c0.2.2.set b o) (Hh.2 k)) _ _ _ ?_ (fun j hj => ?_)]
    · rw [← bg_ws_rf hc h2]
      simp [bg_ce, q4]
    · unfold bg_fd
      rw [htg, bg_getD_set, if_pos ⟨rfl, hbl⟩]
      rfl
    · unfold bg_fd
      rw [bg_getD_set]
      simp [hj]
  have hdd := bg_cls_ty _ _ _ _ hcl b hb
  have htt := bg_cls_tg _ _ _ _ hcl b hb
  rw [htg] at htt
  have hn : narrow (bg_tyOf c0.1 b) (va_rf (o.map ad)) = va_rf (o.map ad) := by
    generalize bg_tyOf c0.1 b = ty at htt ⊢
    cases ty <;> first | (simp [bg_tyt] at htt; done) | (cases o <;> rfl)
  have hf : fits (bg_tyOf c0.1 b) (va_rf (o.map ad)) = true := by
    generalize bg_tyOf c0.1 b = ty at htt ⊢
    cases ty <;> first | (simp [bg_tyt] at htt; done) | (cases o <;> rfl)
  have hvk := h.vk
  have hrr : ∀ j x, (c0.2.2.set b o).getD j none = some x → x < Hh.1.length := by
    intro j x hx
    rw [bg_getD_set] at hx
    split at hx
    · subst hx
      exact hvk _ List.mem_cons_self
    · exact (hwf.2 k c0 hc h2).2.2.2.1 j x hx
  cases hff : (T b).2.2.2 with
  | false =>
    refine va_put hC.1 hC.2.1 hC.2.2.2.2.1 q1 _ (bg_cls_ty _ _ _ _ hcl) q3 hC.2.2.2.1 hC.2.2.2.2.2.1 h.1 h.2.1 h.2.2.1 (k - 2) (bg_obj h hc h2 q4) (by rw [← bg_nth_eq]; exact hcl) b hb (hC.2.2.2.2.1 _ hw) (fun x hx => by rw [q2 b hb] at hx; exact hx) hff hdd hn hf (by simp; omega) hd (fun H1 locs1 hP hD hS => ?_)
    rw [hset] at hP hD
    exact hk ad H1 locs1 ls (h.refs hc h2 ⟨rfl, rfl, by simp⟩ hrr hP hD hS (bg_tl (bg_tl h.vk)))
  | true =>
    obtain ⟨hn1, hn2⟩ : M.1.name = "<init>" ∧ (T b).1 = M.1.cls := hfin.resolve_left (by rw [hff]; decide)
    refine va_putF (own := M.1.cls) hC.1 hC.2.1 hC.2.2.2.2.1 q1 _ (bg_cls_ty _ _ _ _ hcl) q3 hC.2.2.2.1 hC.2.2.2.2.2.1 h.1 h.2.1 h.2.2.1 (k - 2) (bg_obj h hc h2 q4) (by rw [← bg_nth_eq]; exact hcl) b hb (hC.2.2.2.2.1 _ hw) (fun x hx => by rw [q2 b hb] at hx; exact hx) hff (hC.2.2.2.2.2.2.2.1.trans hn1) hn2 hdd hn hf (by simp; omega) hd (fun H1 locs1 hP hD hS => ?_)
    rw [hset] at hP hD
    exact hk ad H1 locs1 ls (h.refs hc h2 ⟨rfl, rfl, by simp⟩ hrr hP hD hS (bg_tl (bg_tl h.vk)))
theorem sm_getstatic (hC : bg_Cx p s m args meth c D cy A M) {i : Nat} (hd : decode M.2.1 pc = .ok (.getstatic i, 3)) (hw : Cond.fieldLink M.1.cls i "BorderGuards$Land" "PATH_LIMITS" "[I" ∈ bg_tbl) (hk : bg_Sim p l e R s m args below meth c Q D cy A E0 M.2.2.1 (pc + 3, L, .inr (.inr (some 1)) :: st, Hh, cn)) : bg_Sim p l e R s m args below meth c Q D cy A E0 M.2.2.1 (pc, L, st, Hh, cn) := by
  intro ad H locs ls h
  exact va_gets hC.1 hC.2.1 h.2.2.2.2.2.1.2.2 h.2.2.1 hC.2.2.2.1 (hC.2.2.2.2.1 _ hw) (fun _ hx => hx) hd (hk ad H locs ls (h.stk (bg_vk2 (show 1 < Hh.1.length by have := h.2.2.2.2.1.two; omega) h.vk)))
theorem bg_ofNat (n : Nat) : Int32.ofNat n = Int32.ofInt (n : Int) := by
  rw [← Int32.toInt_inj, Int32.toInt_ofInt, Int32.toInt_ofNat']
theorem bg_ty_at {k : Nat} (h1 : 10 ≤ k) (h2 : k < 16) : ∃ (t0 : Nat) (ty : FieldType), (bg_tys cy)[t0]? = some (cy k, ty) ∧ (12 ≤ k → ty.isReference = true) ∧ (k = 10 → ty = .int) ∧ (k = 11 → ty = .long) := by
  obtain rfl | rfl | rfl | rfl | rfl | rfl : k = 10 ∨ k = 11 ∨ k = 12 ∨ k = 13 ∨ k = 14 ∨ k = 15 := by omega
  · exact ⟨0, _, rfl, by omega, fun _ => rfl, by omega⟩
  · exact ⟨1, _, rfl, by omega, by omega, fun _ => rfl⟩
  · exact ⟨2, _, rfl, fun _ => rfl, by omega, by omega⟩
  · exact ⟨3, _, rfl, fun _ => rfl, by omega, by omega⟩
  · exact ⟨4, _, rfl, fun _ => rfl, by omega, by omega⟩
  · exact ⟨5, _, rfl, fun _ => rfl, by omega, by omega⟩
theorem sm_alen (hC : bg_Cx p s m args meth c D cy A M) {k : Nat} {c0 : bg_C} (hd : decode M.2.1 pc = .ok (.arraylength, 1)) (hc : bg_nth Hh.1 k = some c0) (h10 : 10 ≤ c0.1) (hk : bg_Sim p l e R s m args below meth c Q D cy A E0 M.2.2.1 (pc + 1, L, .inl (c0.2.1 : Int) :: r, Hh, cn)) : bg_Sim p l e R s m args below meth c Q D cy A E0 M.2.2.1 (pc, L, .inr (.inr (some k)) :: r, Hh, cn) := by
  intro ad H locs ls h
  have hwf := h.2.2.2.2.1
  have hz := hk ad H locs ls (h.stk (bg_vk2 trivial (bg_tl h.vk)))
  rcases Nat.lt_or_ge c0.1 16 with h16 | h16
  · have h2 : 2 ≤ k := hwf.ge hc h16
    obtain ⟨t0, ty, ht, -⟩ := bg_ty_at (cy := cy) h10 h16
    exact va_alen hC.1 hC.2.1 hC.2.2.2.2.2.1 h.1 (k - 2) t0 (bg_arr h hc h2 (by omega)) ht (bg_ofNat _) hd hz
  · obtain ⟨⟨L0, b0, bL, b1⟩, b2⟩ := id hwf
    have hk2 : k < 2 := by
      rcases Nat.lt_or_ge k 2 with q | q
      · exact q
      · have := (b2 k c0 hc q).1
        omega
    rcases (show k = 0 ∨ k = 1 by omega) with rfl | rfl
    · rw [b0] at hc
      cases hc
      exact va_tlen hC.1 hC.2.1 (h.2.2.2.2.2.1.1 L0 b0) h.2.2.1 (bg_ofNat _) hd hz
    · rw [b1] at hc
      cases hc
      exact va_tlen hC.1 hC.2.1 h.2.2.2.2.2.1.2.1 h.2.2.1 (bg_ofNat _) hd hz
theorem sm_iaload (hC : bg_Cx p s m args meth c D cy A M) {k : Nat} {i : Int} {c0 : bg_C} (hd : decode M.2.1 pc = .ok (.iaload, 1)) (hc : bg_nth Hh.1 k = some c0) (h10 : c0.1 = 10 ∨ c0.1 = 16) (hi : 0 ≤ bg_w i ∧ bg_w i < c0.2.1) (hk : bg_Sim p l e R s m args below meth c Q D cy A E0 M.2.2.1 (pc + 1, L, .inl (Hh.2 k (bg_w i)) :: r, Hh, cn)) : bg_Sim p l e R s m args below meth c Q D cy A E0 M.2.2.1 (pc, L, .inl i :: .inr (.inr (some k)) :: r, Hh, cn) := by
  intro ad H locs ls h
  have hwf := h.2.2.2.2.1
  have hz := hk ad H locs ls (h.stk (bg_vk2 trivial (bg_tl (bg_tl h.vk))))
  have en : (((bg_w i).toNat : Nat) : Int) = bg_w i := by omega
  rcases h10 with h10 | h10
  · have h2 : 2 ≤ k := hwf.ge hc (by omega)
    obtain ⟨t0, ty, ht, -, e1, -⟩ := bg_ty_at (cy := cy) (k := c0.1) (by omega) (by omega)
    rw [e1 h10] at ht
    have ha := bg_arr h hc h2 (by omega)
    rw [if_pos h10] at ha
    refine va_iald hC.1 hC.2.1 hC.2.2.2.2.2.1 h.1 (k - 2) t0 ha ht (bg_vin hi) hd ?_
    rw [bg_idx, en]
    exact hz
  · have hk2 := hwf.lt hc h10
    obtain ⟨⟨L0, b0, bL, b1⟩, b2⟩ := id hwf
    rcases (show k = 0 ∨ k = 1 by omega) with rfl | rfl
    · rw [b0] at hc
      cases hc
      exact va_ti hC.1 hC.2.1 (h.2.2.2.2.2.1.1 L0 b0) h.2.2.1 (bg_vin hi) (show Value.int (Int32.ofInt (Hh.2 0 ((bg_w i).toNat : Nat))) = _ by rw [en]; rfl) hd hz
    · rw [b1] at hc
      cases hc
      exact va_ti hC.1 hC.2.1 h.2.2.2.2.2.1.2.1 h.2.2.1 (bg_vin hi) (show Value.int (Int32.ofInt (Hh.2 1 ((bg_w i).toNat : Nat))) = _ by rw [en]; rfl) hd hz
theorem sm_laload (hC : bg_Cx p s m args meth c D cy A M) {k : Nat} {i : Int} {c0 : bg_C} (hd : decode M.2.1 pc = .ok (.laload, 1)) (hc : bg_nth Hh.1 k = some c0) (h10 : c0.1 = 11) (hi : 0 ≤ bg_w i ∧ bg_w i < c0.2.1) (hk : bg_Sim p l e R s m args below meth c Q D cy A E0 M.2.2.1 (pc + 1, L, .inr (.inl (Hh.2 k (bg_w i))) :: r, Hh, cn)) : bg_Sim p l e R s m args below meth c Q D cy A E0 M.2.2.1 (pc, L, .inl i :: .inr (.inr (some k)) :: r, Hh, cn) := by
  intro ad H locs ls h
  have hwf := h.2.2.2.2.1
  have hz := hk ad H locs ls (h.stk (bg_vk2 trivial (bg_tl (bg_tl h.vk))))
  have en : (((bg_w i).toNat : Nat) : Int) = bg_w i := by omega
  have h2 : 2 ≤ k := hwf.ge hc (by omega)
  obtain ⟨t0, ty, ht, -, -, e1⟩ := bg_ty_at (cy := cy) (k := c0.1) (by omega) (by omega)
  rw [e1 h10] at ht
  have ha := bg_arr h hc h2 (by omega)
  rw [if_neg (by omega), if_pos h10] at ha
  refine va_lald hC.1 hC.2.1 hC.2.2.2.2.2.1 h.1 (k - 2) t0 ha ht (bg_vin hi) hd ?_
  rw [bg_idx, en]
  exact hz
theorem sm_aaload (hC : bg_Cx p s m args meth c D cy A M) {k : Nat} {i : Int} {c0 : bg_C} {o : Option Nat} (hd : decode M.2.1 pc = .ok (.aaload, 1)) (hc : bg_nth Hh.1 k = some c0) (h12 : 12 ≤ c0.1) (h15 : c0.1 ≤ 15) (hi : 0 ≤ bg_w i ∧ bg_w i < c0.2.1) (ho : bg_nth c0.2.2 (bg_w i).toNat = some o) (hk : bg_Sim p l e R s m args below meth c Q D cy A E0 M.2.2.1 (pc + 1, L, .inr (.inr o) :: r, Hh, cn)) : bg_Sim p l e R s m args below meth c Q D cy A E0 M.2.2.1 (pc, L, .inl i :: .inr (.inr (some k)) :: r, Hh, cn) := by
  intro ad H locs ls h
  have hwf := h.2.2.2.2.1
  have h2 : 2 ≤ k := hwf.ge hc (by omega)
  have hg : c0.2.2.getD (bg_w i).toNat none = o := by rw [List.getD_eq_getElem?_getD, ← bg_nth_eq, ho]; rfl
  have hz := hk ad H locs ls (h.stk (bg_vk2 (by
    cases o with
    | none => trivial
    | some x => exact (hwf.2 k c0 hc h2).2.2.2.1 _ x hg) (bg_tl (bg_tl h.vk))))
  obtain ⟨t0, ty, ht, e1, -⟩ := bg_ty_at (cy := cy) (k := c0.1) (by omega) (by omega)
  have ha := bg_arr h hc h2 (by omega)
  rw [if_neg (by omega), if_neg (by omega)] at ha
  have hin := bg_vin hi
  have hlt : (Int32.ofInt i).toNatClampNeg < c0.2.1 := Nat.not_le.mp fun q => hin (Or.inr q)
  exact W.aald (v := va_rf (o.map ad)) (ty := ty) hC.1 hC.2.1 (h.1 (k - 2) _ ha) ((hC.2.2.2.2.2.1.2 t0 _ ht).1 c0.2.1 (fun j => va_rf ((c0.2.2.getD j none).map ad))) (e1 h12) (fun q => by cases q) (by show ¬ (_ ∨ (arrV _ _ _).slots.size ≤ _); rw [arrV_size]; exact hin) (by show (arrV _ _ _).slots[_]? = _; rw [arrV_read _ _ hlt]; show some (va_rf ((c0.2.2.getD (bg_w i).toNat none).map ad)) = _; rw [hg]) rfl rfl hd hz
end BgH
