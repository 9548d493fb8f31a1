/-! instructions that make cells -/
def bg_ag (n : Nat) (ad ad' : Nat → Nat) : Prop := ∀ k, k < n → ad' k = ad k
theorem bg_cv_ag {n : Nat} {ad ad' : Nat → Nat} (h : bg_ag n ad ad') {v : bg_V} (hv : bg_vk n v) : bg_cv ad' v = bg_cv ad v := by
  match v, hv with
  | .inl x, _ => rfl
  | .inr (.inl x), _ => rfl
  | .inr (.inr none), _ => rfl
  | .inr (.inr (some r)), hv => simp [bg_cv, h r hv]
theorem bg_map_ag {n : Nat} {ad ad' : Nat → Nat} (h : bg_ag n ad ad') {st : List bg_V} (hv : ∀ v ∈ st, bg_vk n v) : st.map (bg_cv ad') = st.map (bg_cv ad) := List.map_congr_left (fun v hm => bg_cv_ag h (hv v hm))
theorem bg_rl_ag {n nL : Nat} {ad ad' : Nat → Nat} {L : bg_L} {ls : Array Slot} (h : bg_ag n ad ad') (hv : ∀ (j : Nat) (v : bg_V), bg_nth L j = some (some v) → bg_vk n v) (hr : bg_rl ad L ls nL) : bg_rl ad' L ls nL := ⟨hr.1, hr.2.1, fun j v hj => by rw [bg_cv_ag h (hv j v hj)]; exact hr.2.2 j v hj⟩
theorem bg_om_ag {n : Nat} {ad ad' : Nat → Nat} (h : bg_ag n ad ad') {o : Option Nat} (ho : ∀ r, o = some r → r < n) : o.map ad' = o.map ad := by
  cases o with
  | none => rfl
  | some r => simp [h r (ho r rfl)]
theorem bg_ce_ag {n : Nat} {cy : Nat → ClassId} {ad ad' : Nat → Nat} (h : bg_ag n ad ad') {c : bg_C} {g : Int → Int} (hc : ∀ j r, c.2.2.getD j none = some r → r < n) : bg_ce cy ad' c g = bg_ce cy ad c g := by
  unfold bg_ce
  have e1 : bg_fd ad' c.1 c.2.2 g = bg_fd ad c.1 c.2.2 g := by
    funext j
    unfold bg_fd
    rw [bg_om_ag h (fun r hr => hc j r hr)]
  have e2 : (fun j => (c.2.2.getD j none).map ad') = (fun j => (c.2.2.getD j none).map ad) := by
    funext j
    rw [bg_om_ag h (fun r hr => hc j r hr)]
  rw [e1, e2]
theorem bg_vk_le {n n' : Nat} (h : n ≤ n') {v : bg_V} (hv : bg_vk n v) : bg_vk n' v := by
  match v, hv with
  | .inl x, _ => trivial
  | .inr (.inl x), _ => trivial
  | .inr (.inr none), _ => trivial
  | .inr (.inr (some r)), hv => exact Nat.lt_of_lt_of_le hv h
theorem bg_ws_app {cy : Nat → ClassId} {ad ad' : Nat → Nat} {Hh : bg_H} {cs : List bg_C} {g : bg_G} {ex : va_W} (h2 : 2 ≤ Hh.1.length) (hr : ∀ k c, bg_nth Hh.1 k = some c → 2 ≤ k → ∀ j r, c.2.2.getD j none = some r → r < Hh.1.length) (hag : bg_ag Hh.1.length ad ad') (hg : ∀ k, k < Hh.1.length → g k = Hh.2 k) (hl : ex.length = cs.length) (he : ∀ i c, bg_nth cs i = some c → ex[i]? = some (ad' (Hh.1.length + i), bg_ce cy ad' c (g (Hh.1.length + i)))) : bg_ws cy ad Hh ++ ex = bg_ws cy ad' (Hh.1 ++ cs, g) := by
  refine bg_ws_eq (by simp [bg_ws_len]; omega) fun k c hc hk => ?_
  rw [bg_nth_eq] at hc
  rcases Nat.lt_or_ge k Hh.1.length with hlt | hge
  · rw [List.getElem?_append_left hlt, ← bg_nth_eq] at hc
    rw [List.getElem?_append_left (by rw [bg_ws_len]; omega), bg_ws_at hc hk, hag k hlt, bg_ce_ag hag (hr k c hc hk)]
    show _ = some (ad k, bg_ce cy ad c (g k))
    rw [hg k hlt]
  · rw [List.getElem?_append_right hge, ← bg_nth_eq] at hc
    rw [List.getElem?_append_right (by rw [bg_ws_len]; omega), bg_ws_len]
    have := he _ _ hc
    rw [show k - 2 - (Hh.1.length - 2) = k - Hh.1.length by omega, this, show Hh.1.length + (k - Hh.1.length) = k by omega]
def bg_d0 : Nat → Value
  | 0 => .int 0
  | 1 => .long 0
  | 3 => .int 0
  | _ => .null
theorem bg_def {t : Nat} {ty : FieldType} (h : bg_tyt t ty = true) : defaultValue ty = bg_d0 t := by
  unfold bg_tyt at h
  split at h <;> first | rfl | cases h
theorem bg_rep {b j : Nat} : (List.replicate b (none : Option Nat)).getD j none = none := by
  rw [List.getD_eq_getElem?_getD, List.getElem?_replicate]
  split <;> rfl
theorem bg_fd0 (ad : Nat → Nat) (a N j : Nat) : bg_fd ad a (List.replicate N none) (fun _ => 0) j = bg_d0 (bg_tg a j) := by
  unfold bg_fd
  rw [bg_rep]
  generalize bg_tg a j = t
  match t with
  | 0 => rfl
  | 1 => rfl
  | 2 => rfl
  | 3 => rfl
  | n + 4 => rfl
theorem bg_w_ai : Cond.arrayClass .int ∈ bg_tbl := by decide +kernel
theorem bg_w_al : Cond.arrayClass .long ∈ bg_tbl := by decide +kernel
section BgA
variable {p : Program} {l : Launch} {e : Env} {R : Room} {s : State} {m : MethodId} {args : Array Value} {below : List Frame} {meth : Method} {c : Code} {Q : State → Prop} {D : va_G} {cy : Nat → ClassId} {A : Nat → Prop} {M : bg_M} {E0 : (Nat → Nat) × bg_H}
variable {pc nx : Nat} {L : bg_L} {st r : List bg_V} {Hh : bg_H} {cn : Nat × Nat}
theorem bg_Re.grow {nL : Nat} {st2 : List bg_V} {Hh' : bg_H} {ad ad' : Nat → Nat} {H H1 : Heap} {locs locs1 : List Loc} {ls : Array Slot} (h : bg_Re s D cy A E0 nL L st Hh ad H locs ls) (hl : Hh.1.length ≤ Hh'.1.length) (hwf : bg_wf Hh') (hn0 : bg_nth Hh'.1 0 = bg_nth Hh.1 0) (h0 : Hh'.2 0 = Hh.2 0) (h1 : Hh'.2 1 = Hh.2 1) (hag : bg_ag Hh.1.length ad ad') (hP : va_P D bg_cls (bg_ws cy ad' Hh') H1) (hD : va_D A (bg_ws cy ad' Hh')) (hS : va_S A s.heap H1 locs1) (h2 : ∀ v ∈ st2, bg_vk Hh'.1.length v) : bg_Re s D cy A E0 nL L st2 Hh' ad' H1 locs1 ls := by
  obtain ⟨a1, a2, a3, a4, a5, a6, a7, a8, x1, x2, x3, x4, x5⟩ := h
  have h22 := a5.two
  refine ⟨hP, hD, hS, bg_rl_ag hag a8 a4, hwf, ?_, h2, fun j v hj => bg_vk_le hl (a8 j v hj), fun k hk => (hag k (by omega)).trans (x1 k hk), by omega, hn0.trans x3, h0.trans x4, h1.trans x5⟩
  unfold bg_ro at a6 ⊢
  simp only [h0, h1, hn0, hag 0 (by omega), hag 1 (by omega)]
  exact a6
theorem bg_wf_app {cs : List bg_C} {g : bg_G} (h : bg_wf Hh) (hc : ∀ c ∈ cs, c.1 < 16 ∧ c.2.1 < 2 ^ 31 ∧ (c.1 < 10 → ∃ C T, bg_cls[c.1]? = some (C, T, c.2.1)) ∧ (∀ j r, c.2.2.getD j none = some r → r < Hh.1.length + cs.length) ∧ (12 ≤ c.1 ∨ c.1 < 10 → c.2.2.length = c.2.1)) : bg_wf (Hh.1 ++ cs, g) := by
  have h2 := h.two
  obtain ⟨⟨L0, b0, bL, b1⟩, b2⟩ := h
  refine ⟨⟨L0, ?_, bL, ?_⟩, fun k c hk hk2 => ?_⟩
  · rw [bg_nth_eq]; show (Hh.1 ++ cs)[0]? = _; rw [List.getElem?_append_left (by omega), ← bg_nth_eq]; exact b0
  · rw [bg_nth_eq]; show (Hh.1 ++ cs)[1]? = _; rw [List.getElem?_append_left (by omega), ← bg_nth_eq]; exact b1
  · rw [bg_nth_eq] at hk
    have hk : (Hh.1 ++ cs)[k]? = some c := hk
    rcases Nat.lt_or_ge k Hh.1.length with hlt | hge
    · rw [List.getElem?_append_left hlt, ← bg_nth_eq] at hk
      obtain ⟨d1, d2, d3, d4, d5⟩ := b2 k c hk hk2
      exact ⟨d1, d2, d3, fun j r hr => by have := d4 j r hr; simp; omega, d5⟩
    · rw [List.getElem?_append_right hge] at hk
      obtain ⟨d1, d2, d3, d4, d5⟩ := hc c (List.mem_of_getElem? hk)
      exact ⟨d1, d2, d3, fun j r hr => by have := d4 j r hr; simp; omega, d5⟩
theorem bg_zero_lt {h : bg_G} {n m k : Nat} (hk : k < n) : bg_zero h n m k = h k := by
  funext j
  unfold bg_zero
  rw [if_neg (by omega)]
theorem bg_zero_in {h : bg_G} {n m i : Nat} (hi : i < m) : bg_zero h n m (n + i) = fun _ => 0 := by
  funext j
  unfold bg_zero
  rw [if_pos (by omega)]
theorem bg_nth1 {α : Type} {a b : α} {i : Nat} (h : bg_nth [a] i = some b) : i = 0 ∧ b = a := by
  match i, h with
  | 0, h => cases h; exact ⟨rfl, rfl⟩
  | i + 1, h => simp [bg_nth] at h
/-- one cell more -/
theorem bg_one {nL : Nat} {c0 : bg_C} {q : Nat} {ad : Nat → Nat} {H H1 : Heap} {locs locs1 : List Loc} {ls : Array Slot} {r : List bg_V} (h : bg_Re s D cy A E0 nL L st Hh ad H locs ls) (hr : ∀ v ∈ r, bg_vk Hh.1.length v) (h16 : c0.1 < 16) (h31 : c0.2.1 < 2 ^ 31) (hcl : c0.1 < 10 → ∃ C T, bg_cls[c0.1]? = some (C, T, c0.2.1)) (hn : ∀ j, c0.2.2.getD j none = none) (hln : 12 ≤ c0.1 ∨ c0.1 < 10 → c0.2.2.length = c0.2.1)
    (hP : va_P D bg_cls (bg_ws cy ad Hh ++ [(q, bg_ce cy ad c0 (fun _ => 0))]) H1) (hD : va_D A (bg_ws cy ad Hh ++ [(q, bg_ce cy ad c0 (fun _ => 0))])) (hS : va_S A s.heap H1 locs1) : bg_Re s D cy A E0 nL L (.inr (.inr (some Hh.1.length)) :: r) (Hh.1 ++ [c0], bg_zero Hh.2 Hh.1.length 1) (fun k => if k = Hh.1.length then q else ad k) H1 locs1 ls ∧ bg_ag Hh.1.length ad (fun k => if k = Hh.1.length then q else ad k) := by
  have hwf := h.2.2.2.2.1
  have h2 := hwf.two
  have hag : bg_ag Hh.1.length ad (fun k => if k = Hh.1.length then q else ad k) := fun k hk => by
    show (if k = Hh.1.length then q else ad k) = ad k
    rw [if_neg (by omega)]
  have he : bg_ws cy ad Hh ++ [(q, bg_ce cy ad c0 (fun _ => 0))] = bg_ws cy (fun k => if k = Hh.1.length then q else ad k) (Hh.1 ++ [c0], bg_zero Hh.2 Hh.1.length 1) := by
    refine bg_ws_app h2 (fun k c hc hk => (hwf.2 k c hc hk).2.2.2.1) hag (fun k hk => bg_zero_lt hk) rfl (fun i c hc => ?_)
    obtain ⟨rfl, rfl⟩ := bg_nth1 hc
    rw [bg_zero_in (by omega), bg_ce_ag hag (fun j r hr => by rw [hn j] at hr; cases hr)]
    simp
  rw [he] at hP hD
  refine ⟨h.grow (by simp) (bg_wf_app hwf (fun c hc => ?_)) ?_ (bg_zero_lt (by omega)) (bg_zero_lt (by omega)) hag hP hD hS (bg_vk2 ?_ (fun v hv => bg_vk_le (by simp) (hr v hv))), hag⟩
  · rw [List.mem_singleton] at hc
    subst hc
    exact ⟨h16, h31, hcl, fun j r hr => (by rw [hn j] at hr; cases hr), hln⟩
  · rw [bg_nth_eq, bg_nth_eq]
    exact List.getElem?_append_left (by omega)
  · show Hh.1.length < (Hh.1 ++ [c0]).length
    simp
theorem sm_new (hC : bg_Cx p s m args meth c D cy A M) {i a : Nat} {C : String} {T : u_T} {N : Nat} (hd : decode M.2.1 pc = .ok (.new i, 3)) (hcl : bg_nth bg_cls a = some (C, T, N)) (hw : Cond.classLink M.1.cls i C ∈ bg_tbl) (hw2 : Cond.instantiable C N ∈ bg_tbl) (hw3 : Cond.initialized C ∈ bg_tbl) (h1 : cn.1 + 1 ≤ R.cells) (h2 : cn.2 + N ≤ R.slots) (hN : N < 2 ^ 31)
    (hk : bg_Sim p l e R s m args below meth c Q D cy A E0 M.2.2.1 (pc + 3, L, .inr (.inr (some Hh.1.length)) :: st, (Hh.1 ++ [(a, N, List.replicate N none)], bg_zero Hh.2 Hh.1.length 1), (cn.1 + 1, cn.2 + N))) : bg_Sim p l e R s m args below meth c Q D cy A E0 M.2.2.1 (pc, L, st, Hh, cn) := by
  intro ad H locs ls h
  obtain ⟨q1, q2, q3, q4⟩ := bg_cls_in _ _ _ _ hcl
  have hts := hC.2.2.2.2.1
  refine va_new (fs := (List.range N).map (bg_fd ad a (List.replicate N none) (fun _ => 0))) hC.1 hC.2.1 hts q1 _ (bg_cls_ty _ _ _ _ hcl) hC.2.2.2.1 (hts _ hw) (hts _ hw2) (hts _ hw3) hC.2.2.2.2.2.1 h.1 h.2.1 h.2.2.1 hC.2.2.2.2.2.2.1 (by rw [← bg_nth_eq]; exact hcl) (fun j hj => ?_) h1 h2 hd (fun q H1 hP hD hS => ?_)
  · rw [bg_def (bg_cls_tg _ _ _ _ hcl j hj)]
    unfold vp_V
    rw [List.getD_eq_getElem?_getD, List.getElem?_map, List.getElem?_range hj]
    exact (bg_fd0 ad a N j).symm
  · have hce : (Sum.inr (a, (List.range N).map (bg_fd ad a (List.replicate N none) (fun _ => 0))) : va_E) = bg_ce cy ad (a, N, List.replicate N none) (fun _ => 0) := by
      simp [bg_ce, q4]
    rw [hce] at hP hD
    obtain ⟨g1, g2⟩ := bg_one h h.vk (c0 := (a, N, List.replicate N none)) (by show a < 16; omega) hN (fun _ => ⟨C, T, by rw [← bg_nth_eq]; exact hcl⟩) (fun j => bg_rep) (fun _ => List.length_replicate) hP hD hS
    have hz := hk _ H1 locs ls g1
    rw [List.map_cons, bg_map_ag g2 h.vk] at hz
    have : bg_cv (fun k => if k = Hh.1.length then q else ad k) (.inr (.inr (some Hh.1.length))) = .ref q := by simp [bg_cv, va_rf]
    rw [this] at hz
    exact hz
theorem bg_cy_eq {k t0 : Nat} {cA : ClassId} {ty : FieldType} (hK : va_K D bg_cls (bg_tys cy) s) (ht : (bg_tys cy)[t0]? = some (cy k, ty)) (hK2 : va_K D bg_cls (bg_tys cy ++ [(cA, ty)]) s) : cA = cy k := by
  have h1 := (hK.2 t0 _ ht).2
  have h2 := (hK2.2 (bg_tys cy).length (cA, ty) (by rw [List.getElem?_append_right (Nat.le_refl _)]; simp)).2
  cases ty with
  | object C =>
    obtain ⟨kA, comp, -, -, -, f1⟩ := h1
    obtain ⟨kA', comp', -, -, -, f2⟩ := h2
    exact Option.some.inj (f2.symm.trans f1)
  | _ => exact Option.some.inj (h2.symm.trans h1)
theorem bg_nn {b : Nat} (hb : b ≤ 5000) : ¬ Int32.ofInt (b : Int) < 0 ∧ (Int32.ofInt (b : Int)).toNatClampNeg = b := by
  have : (Int32.ofInt (b : Int)).toInt = b := by
    rw [Int32.toInt_ofInt, Int.bmod_eq_of_le (by simp <;> omega) (by simp <;> omega)]
  refine ⟨by rw [Int32.lt_iff_toInt_lt, this]; simp, ?_⟩
  show (Int32.ofInt (b : Int)).toInt.toNat = b
  rw [this]
  simp
theorem sm_newarray (hC : bg_Cx p s m args meth c D cy A M) {a b : Nat} {ty : ArrayType} (hd : decode M.2.1 pc = .ok (.newarray ty, 2)) (hty : (ty = .int ∧ a = 10) ∨ (ty = .long ∧ a = 11)) (hb : b ≤ 5000) (h1 : cn.1 + 1 ≤ R.cells) (h2 : cn.2 + b ≤ R.slots)
    (hk : bg_Sim p l e R s m args below meth c Q D cy A E0 M.2.2.1 (pc + 2, L, .inr (.inr (some Hh.1.length)) :: r, (Hh.1 ++ [(a, b, [])], bg_zero Hh.2 Hh.1.length 1), (cn.1 + 1, cn.2 + b))) : bg_Sim p l e R s m args below meth c Q D cy A E0 M.2.2.1 (pc, L, .inl (b : Int) :: r, Hh, cn) := by
  intro ad H locs ls h
  have hts := hC.2.2.2.2.1
  obtain ⟨n1, n2⟩ := bg_nn hb
  have key : ∀ (q : Nat) (H1 : Heap), va_P D bg_cls (bg_ws cy ad Hh ++ [(q, bg_ce cy ad (a, b, []) (fun _ => 0))]) H1 → va_D A (bg_ws cy ad Hh ++ [(q, bg_ce cy ad (a, b, []) (fun _ => 0))]) → va_S A s.heap H1 locs → W p l e R s m args below meth c H1 locs (cn.1 + 1) (cn.2 + b) Q (F0 m (pc + 2) ls (.ref q :: r.map (bg_cv ad))) := by
    intro q H1 hP hD hS
    obtain ⟨g1, g2⟩ := bg_one h (bg_tl h.vk) (c0 := (a, b, [])) (by show a < 16; omega) (by show b < _; omega) (fun q => by exfalso; have q : a < 10 := q; omega) (fun j => by simp) (fun q => by exfalso; have q : 12 ≤ a ∨ a < 10 := q; omega) hP hD hS
    have hz := hk _ H1 locs ls g1
    rw [List.map_cons, bg_map_ag g2 (bg_tl h.vk)] at hz
    have : bg_cv (fun k => if k = Hh.1.length then q else ad k) (.inr (.inr (some Hh.1.length))) = .ref q := by simp [bg_cv, va_rf]
    rw [this] at hz
    exact hz
  have w1 : (Cond.arrayClass (newarray.typeOf .int)).before args s = true := hts _ bg_w_ai
  have w2 : (Cond.arrayClass (newarray.typeOf .long)).before args s = true := hts _ bg_w_al
  rcases hty with ⟨rfl, rfl⟩ | ⟨rfl, rfl⟩
  · refine va_newa (ty := .int) (a0 := (b, .inl (fun _ => 0))) hC.1 hC.2.1 w1 rfl hC.2.2.2.2.2.1 h.1 h.2.1 h.2.2.1 hC.2.2.2.2.2.2.1 (fun _ => rfl) n1 n2 (by show b * 4 ≤ _; omega) h1 h2 hd (fun q cA H1 hK2 hP hD hS => ?_)
    rw [bg_cy_eq (k := 10) (t0 := 0) hC.2.2.2.2.2.1 rfl hK2] at hP hD
    exact key q H1 hP hD hS
  · refine va_newa (ty := .long) (a0 := (b, .inr (.inl (fun _ => 0)))) hC.1 hC.2.1 w2 rfl hC.2.2.2.2.2.1 h.1 h.2.1 h.2.2.1 hC.2.2.2.2.2.2.1 (fun _ => rfl) n1 n2 (by show b * 8 ≤ _; omega) h1 h2 hd (fun q cA H1 hK2 hP hD hS => ?_)
    rw [bg_cy_eq (k := 11) (t0 := 1) hC.2.2.2.2.2.1 rfl hK2] at hP hD
    exact key q H1 hP hD hS
end BgA
