/-! new T[n], new T[n][m] -/
section BgN
variable {p : Program} {l : Launch} {e : Env} {R : Room} {s : State} {m : MethodId} {args : Array Value} {below : List Frame} {meth : Method} {c : Code} {Q : State → Prop} {D : va_G} {cy : Nat → ClassId} {A : Nat → Prop} {M : bg_M} {E0 : (Nat → Nat) × bg_H}
variable {pc nx : Nat} {L : bg_L} {st r : List bg_V} {Hh : bg_H} {cn : Nat × Nat}
theorem sm_anewarray (hC : bg_Cx p s m args meth c D cy A M) {a b i t0 : Nat} {C : String} (hd : decode M.2.1 pc = .ok (.anewarray i, 3)) (ha : a = 12 ∨ a = 13) (hty : ∀ cy : Nat → ClassId, (bg_tys cy)[t0]? = some (cy a, .object C)) (hw : Cond.classLink M.1.cls i C ∈ bg_tbl) (hw2 : FieldType.object C ∈ [FieldType.object "BorderGuards$Land", .object "BorderGuards$Lots", .array .int, .array .long]) (hb : b ≤ 100) (h1 : cn.1 + 1 ≤ R.cells) (h2 : cn.2 + b ≤ R.slots)
    (hk : bg_Sim p l e R s m args below meth c Q D cy A E0 M.2.2.1 (pc + 3, L, .inr (.inr (some Hh.1.length)) :: r, (Hh.1 ++ [(a, b, List.replicate b none)], bg_zero Hh.2 Hh.1.length 1), (cn.1 + 1, cn.2 + b))) : bg_Sim p l e R s m args below meth c Q D cy A E0 M.2.2.1 (pc, L, .inl (b : Int) :: r, Hh, cn) := by
  intro ad H locs ls h
  have hts := hC.2.2.2.2.1
  obtain ⟨n1, n2⟩ := bg_nn (b := b) (by omega)
  refine va_newq hC.1 hC.2.1 hC.2.2.2.1 (hts _ hw) (hC.2.2.2.2.2.2.2.2 _ hw2) hC.2.2.2.2.2.1 h.1 h.2.1 h.2.2.1 hC.2.2.2.2.2.2.1 n1 n2 (by omega) h1 h2 hd (fun q cA H1 hK2 hP hD hS => ?_)
  rw [bg_cy_eq (k := a) (t0 := t0) hC.2.2.2.2.2.1 (hty cy) hK2] at hP hD
  have hce : (Sum.inl (cy a, b, .inr (.inr (.inr (.inr (fun _ => none))))) : va_E) = bg_ce cy ad (a, b, List.replicate b none) (fun _ => 0) := by
    unfold bg_ce
    simp only [show ¬ a < 10 by omega, show ¬ a = 10 by omega, show ¬ a = 11 by omega, if_false, bg_rep]
    rfl
  rw [hce] at hP hD
  obtain ⟨g1, g2⟩ := bg_one h (bg_tl h.vk) (c0 := (a, b, List.replicate b none)) (by show a < 16; omega) (by show b < _; omega) (fun q => by exfalso; have q : a < 10 := q; omega) (fun j => bg_rep) (fun _ => List.length_replicate) hP hD hS
  have hz := hk _ H1 locs ls g1
  rw [List.map_cons, bg_map_ag g2 (bg_tl h.vk)] at hz
  have : bg_cv (fun k => if k = Hh.1.length then q else ad k) (.inr (.inr (some Hh.1.length))) = .ref q := by simp [bg_cv, va_rf]
  rw [this] at hz
  exact hz
theorem bg_nth_rep {α : Type} {x y : α} {n i : Nat} (h : bg_nth (List.replicate n x) i = some y) : y = x ∧ i < n := by
  rw [bg_nth_eq, List.getElem?_replicate] at h
  split at h
  · cases h; exact ⟨rfl, by assumption⟩
  · cases h
theorem bg_getD_rg {b n j : Nat} : ((List.range b).map (fun i => some (n + i))).getD j none = if j < b then some (n + j) else none := by
  rw [List.getD_eq_getElem?_getD, List.getElem?_map]
  by_cases h : j < b
  · rw [List.getElem?_range h, if_pos h]; rfl
  · rw [List.getElem?_eq_none (by simp; omega), if_neg h]; rfl
theorem bg_outer (c : ClassId) (N h0 : Nat) : ∀ i : Nat, Jvm.Free.Multi.outerC c N h0 i = arrV c N (fun j => va_rf (if j < i then some (h0 + 1 + j) else none))
  | 0 => by
    show ({ cls := c, slots := Array.replicate N .null, vm := .none } : Cell) = _
    rw [arrV_new]
    refine congrArg (arrV c N) (funext fun j => ?_)
    simp [va_rf]
  | i + 1 => by
    show (Jvm.Free.Multi.outerC c N h0 i).setSlot i (.ref (h0 + 1 + i)) = _
    rw [bg_outer c N h0 i, arrV_store]
    refine congrArg (arrV c N) (funext fun j => ?_)
    by_cases e : j = i
    · subst e
      simp [updV, va_rf]
    · by_cases h : j < i
      · simp [updV, e, h, Nat.lt_succ_of_lt h]
      · simp [updV, e, h, show ¬ j < i + 1 by omega]
theorem sm_multi (hC : bg_Cx p s m args meth c D cy A M) {a b t i : Nat} {ty : FieldType} (hd : decode M.2.1 pc = .ok (.multianewarray i 2, 4)) (ha : (a = 14 ∧ ty = .int) ∨ (a = 15 ∧ ty = .long)) (hw : Cond.classLink M.1.cls i ("[" ++ (FieldType.array ty).toString) ∈ bg_tbl) (hb : b ≤ 100 ∧ t ≤ 100) (h1 : cn.1 + 1 + b ≤ R.cells) (h2 : cn.2 + b + b * t ≤ R.slots)
    (hk : bg_Sim p l e R s m args below meth c Q D cy A E0 M.2.2.1 (pc + 4, L, .inr (.inr (some Hh.1.length)) :: r, (Hh.1 ++ (a, b, (List.range b).map (fun i => some (Hh.1.length + 1 + i))) :: List.replicate b (a - 4, t, []), bg_zero Hh.2 Hh.1.length (1 + b)), (cn.1 + 1 + b, cn.2 + b + b * t))) : bg_Sim p l e R s m args below meth c Q D cy A E0 M.2.2.1 (pc, L, .inl (t : Int) :: .inl (b : Int) :: r, Hh, cn) := by
  intro ad H locs ls h
  have hts := hC.2.2.2.2.1
  have hK := hC.2.2.2.2.2.1
  obtain ⟨n1, n2⟩ := bg_nn (b := b) (by omega)
  obtain ⟨k1, k2⟩ := bg_nn (b := t) (by omega)
  have hwf := h.2.2.2.2.1
  have h22 := hwf.two
  obtain ⟨t0, u0, hover, harr, hA0, hA1, hdf, hdd, hcb⟩ : ∃ t0 u0 : Nat, (Cond.arrayOver (.array ty)).before #[] s = true ∧ Cond.arrayClass ty ∈ bg_tbl ∧ (bg_tys cy)[t0]? = some (cy a, .array ty) ∧ (bg_tys cy)[u0]? = some (cy (a - 4), ty) ∧ fits ty (defaultValue ty) = true ∧ (defaultValue ty).isDefault = true ∧ componentBytes ty ≤ 8 := by
    rcases ha with ⟨rfl, rfl⟩ | ⟨rfl, rfl⟩
    · exact ⟨4, 0, hC.2.2.2.2.2.2.2.2 _ (by simp), bg_w_ai, rfl, rfl, rfl, rfl, by decide⟩
    · exact ⟨5, 1, hC.2.2.2.2.2.2.2.2 _ (by simp), bg_w_al, rfl, rfl, rfl, rfl, by decide⟩
  have hprod : t * componentBytes ty ≤ t * 8 := Nat.mul_le_mul_left t hcb
  intro T hT Xs
  obtain ⟨vm₁, cA, comp, -, fA, fC, -, -, X', step⟩ := Xs.multianewarray2F hC.1 hC.2.2.2.1 (hts _ hw) hover (hts _ harr) (g := F0 m pc ls (.int (Int32.ofInt t) :: .int (Int32.ofInt b) :: r.map (bg_cv ad))) rfl (by rw [hC.2.1]; exact hd) rfl n1 k1 (by rw [n2]; omega) (by rw [k2]; omega) (by rw [k2]; omega) hdf hdd (by rw [n2]; omega) (by rw [n2, k2]; omega)
  rw [n2, k2] at X' step
  have eA : cA = cy a := by
    have := (hK.2 t0 _ hA0).2
    exact Option.some.inj (fA.symm.trans this)
  have eC : comp = cy (a - 4) := by
    have := (hK.2 u0 _ hA1).2
    have e2 : s.vm.findClass (FieldType.array ty).toString = some (cy (a - 4)) := by
      rcases ha with ⟨rfl, rfl⟩ | ⟨rfl, rfl⟩
      · exact this
      · exact this
    exact Option.some.inj (fC.symm.trans e2)
  subst eA
  subst eC
  generalize hF : Jvm.Free.Multi.fill (T.setVm vm₁) (cy a) (cy (a - 4)) b t (defaultValue ty) b = F at X' step
  have hTh : (T.setVm vm₁).heap = H := hT
  obtain ⟨f1, f2, -, -⟩ := Jvm.Free.Multi.fill_facts (T.setVm vm₁) (cy a) (cy (a - 4)) b t (defaultValue ty) b
  rw [hF, hTh] at f1 f2
  have hold : ∀ x : Nat, x < H.size → F.heap[x]? = H[x]? := fun x hx => by
    have := Jvm.Free.Multi.fill_old (T.setVm vm₁) (cy a) (cy (a - 4)) b t (defaultValue ty) (a := x) (by rw [hTh]; exact hx) b
    rw [hF, hTh] at this
    exact this
  have hrow : ∀ j : Nat, j < b → F.heap[H.size + 1 + j]? = some (Jvm.Free.Multi.innerC (cy (a - 4)) t (defaultValue ty)) := fun j hj => by
    have := Jvm.Free.Multi.fill_inner (T.setVm vm₁) (cy a) (cy (a - 4)) b t (defaultValue ty) b j hj
    rw [hF, hTh] at this
    exact this
  rw [bg_outer] at f2
  -- the new addresses
  obtain ⟨ad', had⟩ : ∃ ad' : Nat → Nat, ad' = fun k => if Hh.1.length ≤ k then H.size + (k - Hh.1.length) else ad k := ⟨_, rfl⟩
  have hag : bg_ag Hh.1.length ad ad' := fun k hk => by rw [had]; show (if _ then _ else _) = _; rw [if_neg (by omega)]
  have hnew : ∀ i : Nat, ad' (Hh.1.length + i) = H.size + i := fun i => by rw [had]; show (if _ then _ else _) = _; rw [if_pos (by omega)]; omega
  obtain ⟨ex, hex⟩ : ∃ ex : va_W, ex = (H.size, .inl (cy a, b, .inr (.inr (.inr (.inr (fun j => if j < b then some (H.size + 1 + j) else none)))))) :: (List.range b).map (fun j => ((H.size + 1 + j, bg_ce cy ad' (a - 4, t, []) (fun _ => 0)) : Nat × va_E)) := ⟨_, rfl⟩
  have hxl : ex.length = b + 1 := by rw [hex]; simp
  have hx1 : ∀ (k9 : Nat) (x : Nat × va_E), ex[k9]? = some x → x.1 = H.size + k9 := fun k9 x hx => by
    rw [hex] at hx
    cases k9 with
    | zero => cases hx; rfl
    | succ k9 =>
      rw [List.getElem?_cons_succ, List.getElem?_map] at hx
      by_cases h9 : k9 < b
      · rw [List.getElem?_range h9] at hx
        cases hx
        show H.size + 1 + k9 = _
        omega
      · rw [List.getElem?_eq_none (by simp; omega)] at hx
        cases hx
  have hPe : va_P D bg_cls ex F.heap := fun k9 x hx => by
    rw [hex] at hx
    cases k9 with
    | zero => cases hx; exact f2
    | succ k9 =>
      rw [List.getElem?_cons_succ, List.getElem?_map] at hx
      by_cases h9 : k9 < b
      · rw [List.getElem?_range h9] at hx
        cases hx
        have := hrow k9 h9
        rcases ha with ⟨rfl, rfl⟩ | ⟨rfl, rfl⟩
        · show F.heap[H.size + 1 + k9]? = some (vp_cell _ _)
          rw [this]
          show some ({ cls := cy 10, slots := Array.replicate t (.int 0), vm := .none } : Cell) = some (arrV (cy 10) t (fun _ => .int 0))
          rw [← arrV_new]
        · show F.heap[H.size + 1 + k9]? = some (vp_cell _ _)
          rw [this]
          show some ({ cls := cy 11, slots := Array.replicate t (.long 0), vm := .none } : Cell) = some (arrV (cy 11) t (fun _ => .long 0))
          rw [← arrV_new]
      · rw [List.getElem?_eq_none (by simp; omega)] at hx
        cases hx
  have hP1 : va_P D bg_cls (bg_ws cy ad Hh ++ ex) F.heap := (h.1.kept (fun k9 x hx => hold x.1 ((h.1 k9 x hx).lt))).app hPe
  have hD1 : va_D A (bg_ws cy ad Hh ++ ex) := by
    refine va_D.app h.2.1 ⟨fun i j x y hi hj hxy => ?_, fun k9 x hx => ?_⟩ (fun i j x y hi hj => ?_)
    · have := hx1 i x hi
      have := hx1 j y hj
      omega
    · rw [hx1 k9 x hx]
      exact hC.2.2.2.2.2.2.1 _ (by have := h.2.2.1.1; omega)
    · have := (h.1 i x hi).lt
      have := hx1 j y hj
      omega
  have hS1 : va_S A s.heap F.heap locs := ⟨by rw [f1]; have := h.2.2.1.1; omega, fun x q1 q2 => (hold x (Nat.lt_of_lt_of_le q1 h.2.2.1.1)).trans (h.2.2.1.2.1 x q1 q2), h.2.2.1.2.2⟩
  have he : bg_ws cy ad Hh ++ ex = bg_ws cy ad' (Hh.1 ++ (a, b, (List.range b).map (fun i => some (Hh.1.length + 1 + i))) :: List.replicate b (a - 4, t, []), bg_zero Hh.2 Hh.1.length (1 + b)) := by
    refine bg_ws_app h22 (fun k c hc hk => (hwf.2 k c hc hk).2.2.2.1) hag (fun k hk => bg_zero_lt hk) (by rw [hxl]; simp) (fun i c hc => ?_)
    rw [hnew]
    cases i with
    | zero =>
      cases hc
      rw [hex]
      show some _ = some _
      rw [Nat.add_zero]
      congr 2
      unfold bg_ce
      rw [if_neg (by show ¬ a < 10; omega), if_neg (by show ¬ a = 10; omega), if_neg (by show ¬ a = 11; omega)]
      congr 6
      refine congrArg Sum.inr (funext fun j => ?_)
      show (if j < b then some (Array.size H + 1 + j) else none) = Option.map ad' (((List.range b).map (fun i => some (Hh.1.length + 1 + i))).getD j none)
      rw [bg_getD_rg]
      by_cases hj : j < b
      · rw [if_pos hj, if_pos hj, Option.map_some, show Hh.1.length + 1 + j = Hh.1.length + (1 + j) by omega, hnew, show H.size + 1 + j = H.size + (1 + j) by omega]
      · rw [if_neg hj, if_neg hj]
        rfl
    | succ i =>
      obtain ⟨rfl, hi⟩ := bg_nth_rep (show bg_nth (List.replicate b (a - 4, t, [])) i = some c from hc)
      rw [hex, List.getElem?_cons_succ, List.getElem?_map, List.getElem?_range hi, bg_zero_in (by omega), show H.size + (i + 1) = H.size + 1 + i by omega]
      rfl
  rw [he] at hP1 hD1
  have hlen : (Hh.1 ++ (a, b, (List.range b).map (fun i => some (Hh.1.length + 1 + i))) :: List.replicate b (a - 4, t, [])).length = Hh.1.length + (b + 1) := by simp
  have g1 : bg_Re s D cy A E0 M.2.2.1 L (.inr (.inr (some Hh.1.length)) :: r) (Hh.1 ++ (a, b, (List.range b).map (fun i => some (Hh.1.length + 1 + i))) :: List.replicate b (a - 4, t, []), bg_zero Hh.2 Hh.1.length (1 + b)) ad' F.heap locs ls := by
    refine h.grow (by show _ ≤ List.length _; rw [hlen]; omega) (bg_wf_app hwf (fun c hc => ?_)) ?_ (bg_zero_lt (by omega)) (bg_zero_lt (by omega)) hag hP1 hD1 hS1 (bg_vk2 ?_ (fun v hv => bg_vk_le (by show _ ≤ List.length _; rw [hlen]; omega) (bg_tl (bg_tl h.vk) v hv)))
    · rcases List.mem_cons.mp hc with rfl | hc
      · refine ⟨by show a < 16; omega, by show b < _; omega, fun q => by exfalso; have q : a < 10 := q; omega, fun j r hr => ?_, fun _ => by simp⟩
        rw [bg_getD_rg] at hr
        split at hr
        · cases hr
          simp
          omega
        · cases hr
      · have hc := (List.mem_replicate.mp hc).2
        subst hc
        exact ⟨by show a - 4 < 16; omega, by show t < _; omega, fun q => by exfalso; have q : a - 4 < 10 := q; omega, fun j r hr => by simp at hr, fun q => by exfalso; have q : 12 ≤ a - 4 ∨ a - 4 < 10 := q; omega⟩
    · rw [bg_nth_eq, bg_nth_eq]
      exact List.getElem?_append_left (by omega)
    · show Hh.1.length < List.length _
      rw [hlen]
      omega
  obtain ⟨tt, a1, b1⟩ := hk ad' F.heap locs ls g1 F rfl X'
  refine ⟨tt, step tt ?_, b1⟩
  have e1 : T.heap.size = H.size := by rw [hT]
  rw [e1]
  rw [List.map_cons, bg_map_ag hag (bg_tl (bg_tl h.vk))] at a1
  have : bg_cv ad' (.inr (.inr (some Hh.1.length))) = .ref H.size := by
    have := hnew 0
    rw [Nat.add_zero, Nat.add_zero] at this
    simp [bg_cv, va_rf, this]
  rw [this] at a1
  exact a1
end BgN
