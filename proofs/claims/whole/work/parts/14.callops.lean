/-! every instruction -/
section BgD
variable {p : Program} {l : Launch} {e : Env} {R : Room} {s : State} {m : MethodId} {args : Array Value} {below : List Frame} {meth : Method} {c : Code} {Q : State → Prop} {D : va_G} {cy : Nat → ClassId} {A : Nat → Prop} {M : bg_M} {E0 : (Nat → Nat) × bg_H}
variable {pc nx : Nat} {L : bg_L} {st r : List bg_V} {Hh : bg_H} {cn : Nat × Nat}
theorem sm_callV (hC : bg_Cx p s m args meth c D cy A M) {d i k a b : Nat} (hM : bg_Met l d) (hRf : d + 1 ≤ R.frames) (hRl : 200 * (d + 1) ≤ R.locals) {M' : bg_M} {as rest : List bg_V} {c0 : bg_C} (hd : decode M.2.1 pc = .ok (.invokevirtual i, 3)) (hk : bg_nth bg_MS a = some M') (hl : Cond.methodLink M.1.cls i M'.1 ∈ bg_tbl) (hn : (parseMethodDescriptor M'.1.desc).map (fun s => s.parameters.length) = some b) (hkd : bg_kd a = 1) (hc : bg_nth Hh.1 k = some c0) (hcls : (bg_nth bg_cls c0.1).map (·.1) = some M'.1.cls) (hlen : as.length = b) (h8 : bg_cats rest ≤ 8) (h1 : cn.1 + (bg_mc a).1 ≤ R.cells) (h2 : cn.2 + (bg_mc a).2 ≤ R.slots)
    (hw : bg_Ca bg_MS d a (.inr (.inr (some k)) :: as) Hh (fun v H' => bg_Sim p l e R s m args below meth c Q D cy A E0 M.2.2.1 (pc + 3, L, bg_push v rest, H', (cn.1 + (bg_mc a).1, cn.2 + (bg_mc a).2)))) : bg_Sim p l e R s m args below meth c Q D cy A E0 M.2.2.1 (pc, L, (.inr (.inr (some k)) :: as).reverse ++ rest, Hh, cn) := by
  intro ad H locs ls h
  obtain ⟨q, hq, hm⟩ := bg_kind hk
  have hkq : q.2.2.1 = 1 := by
    have := hkd
    unfold bg_kd at this
    rw [hq] at this
    exact this
  simp only [bg_okm, hkq, Bool.and_eq_true, decide_eq_true_eq] at hm
  have hts := hC.2.2.2.2.1
  have hvs : ∀ v ∈ (.inr (.inr (some k)) :: as), bg_vk Hh.1.length v := fun v hv => h.vk v (List.mem_append_left _ (List.mem_reverse.mpr hv))
  have hrs : ∀ v ∈ rest, bg_vk Hh.1.length v := fun v hv => h.vk v (List.mem_append_right _ hv)
  obtain ⟨qq, hqq⟩ : ∃ qq, bg_nth bg_cls c0.1 = some qq := by
    cases hx : bg_nth bg_cls c0.1 with
    | none => rw [hx] at hcls; cases hcls
    | some qq => exact ⟨qq, rfl⟩
  rw [hqq] at hcls
  have hcn : qq.1 = M'.1.cls := Option.some.inj hcls
  have h10 := (bg_cls_in c0.1 qq.1 qq.2.1 qq.2.2 hqq).2.2.2
  have hk2 : 2 ≤ k := h.2.2.2.2.1.ge hc (by omega)
  have hrv := va_recv hC.2.2.2.2.2.1 h.1 (by rw [← bg_nth_eq]; exact hqq) (bg_obj h hc hk2 h10)
  rw [hcn] at hrv
  refine bg_back hC (k := a) (bg_ret_ok hk) (av := (bg_cv ad (.inr (.inr (some k))) :: as.map (bg_cv ad)).toArray) h hrs ?_ (fun v H' hv => hv)
  refine va_runV (As := as.map (bg_cv ad)) (b := ad k) (C := M'.1.cls) (nL := M.2.2.1) ⟨hC.1, hC.2.1, hC.2.2.1, hC.2.2.2.1, hts⟩ (hM a M' hk D cy ad Hh H.size _ _ h.2.2.2.2.1 hvs hw) ⟨bg_callB hC (n := b) hk hl hn hRf hRl, hts _ (bg_wd_in hm.2.1), hts _ (bg_wd_in hm.2.2)⟩ ⟨bg_blind, hrv, bg_pre (as := .inr (.inr (some k)) :: as) hC h⟩ rfl (by rw [List.length_map]; exact hlen) h.2.2.2.1.1 ?_ (lv_room (by rw [bg_cats_eq]; exact h8)) hd ⟨h1, h2⟩
  show List.map (bg_cv ad) ((.inr (.inr (some k)) :: as).reverse ++ rest) = _
  simp [List.map_append, List.map_reverse, bg_cv, va_rf]
theorem sm_callI (hC : bg_Cx p s m args meth c D cy A M) {d i k a b : Nat} (hM : bg_Met l d) (hRf : d + 1 ≤ R.frames) (hRl : 200 * (d + 1) ≤ R.locals) {M' : bg_M} {as rest : List bg_V} (hd : decode M.2.1 pc = .ok (.invokespecial i, 3)) (hk : bg_nth bg_MS a = some M') (hl : Cond.methodLink M.1.cls i M'.1 ∈ bg_tbl) (hn : (parseMethodDescriptor M'.1.desc).map (fun s => s.parameters.length) = some b) (hkd : bg_kd a = 2) (hin : M'.1.name = "<init>") (hrn : M'.2.2.2.1 = none) (hlen : as.length = b) (h8 : bg_cats rest ≤ 8) (h1 : cn.1 + (bg_mc a).1 ≤ R.cells) (h2 : cn.2 + (bg_mc a).2 ≤ R.slots)
    (hw : bg_Ca bg_MS d a (.inr (.inr (some k)) :: as) Hh (fun v H' => bg_Sim p l e R s m args below meth c Q D cy A E0 M.2.2.1 (pc + 3, L, bg_push v rest, H', (cn.1 + (bg_mc a).1, cn.2 + (bg_mc a).2)))) : bg_Sim p l e R s m args below meth c Q D cy A E0 M.2.2.1 (pc, L, (.inr (.inr (some k)) :: as).reverse ++ rest, Hh, cn) := by
  intro ad H locs ls h
  obtain ⟨q, hq, hm⟩ := bg_kind hk
  have hkq : q.2.2.1 = 2 := by
    have := hkd
    unfold bg_kd at this
    rw [hq] at this
    exact this
  simp only [bg_okm, hkq, Bool.and_eq_true, decide_eq_true_eq] at hm
  have hts := hC.2.2.2.2.1
  have hvs : ∀ v ∈ (.inr (.inr (some k)) :: as), bg_vk Hh.1.length v := fun v hv => h.vk v (List.mem_append_left _ (List.mem_reverse.mpr hv))
  have hrs : ∀ v ∈ rest, bg_vk Hh.1.length v := fun v hv => h.vk v (List.mem_append_right _ hv)
  have hcb := bg_callB (R := R) hC (n := b) hk hl hn hRf hRl
  rw [hrn] at hcb
  refine bg_back hC (k := a) (bg_ret_ok hk) (av := (bg_cv ad (.inr (.inr (some k))) :: as.map (bg_cv ad)).toArray) h hrs ?_ (fun v H' hv => hv)
  refine va_runI (As := as.map (bg_cv ad)) (b := ad k) (nL := M.2.2.1) ⟨hC.1, hC.2.1, hC.2.2.1, hC.2.2.2.1, hts⟩ (hM a M' hk D cy ad Hh H.size _ _ h.2.2.2.2.1 hvs hw) ⟨hcb, hin, hts _ (bg_wd_in hm.2)⟩ ⟨bg_blind, bg_pre (as := .inr (.inr (some k)) :: as) hC h⟩ rfl (by rw [List.length_map]; exact hlen) h.2.2.2.1.1 ?_ (lv_room (by rw [bg_cats_eq]; exact h8)) hd ⟨h1, h2⟩
  show List.map (bg_cv ad) ((.inr (.inr (some k)) :: as).reverse ++ rest) = _
  simp [List.map_append, List.map_reverse, bg_cv, va_rf]
theorem sm_callS (hC : bg_Cx p s m args meth c D cy A M) {d i a b : Nat} (hM : bg_Met l d) (hRf : d + 1 ≤ R.frames) (hRl : 200 * (d + 1) ≤ R.locals) {M' : bg_M} {as rest : List bg_V} (hd : decode M.2.1 pc = .ok (.invokestatic i, 3)) (hk : bg_nth bg_MS a = some M') (hl : Cond.methodLink M.1.cls i M'.1 ∈ bg_tbl) (hn : (parseMethodDescriptor M'.1.desc).map (fun s => s.parameters.length) = some b) (hkd : bg_kd a = 0) (hlen : as.length = b) (h8 : bg_cats rest ≤ 8) (h1 : cn.1 + (bg_mc a).1 ≤ R.cells) (h2 : cn.2 + (bg_mc a).2 ≤ R.slots)
    (hw : bg_Ca bg_MS d a as Hh (fun v H' => bg_Sim p l e R s m args below meth c Q D cy A E0 M.2.2.1 (pc + 3, L, bg_push v rest, H', (cn.1 + (bg_mc a).1, cn.2 + (bg_mc a).2)))) : bg_Sim p l e R s m args below meth c Q D cy A E0 M.2.2.1 (pc, L, as.reverse ++ rest, Hh, cn) := by
  intro ad H locs ls h
  obtain ⟨q, hq, hm⟩ := bg_kind hk
  have hkq : q.2.2.1 = 0 := by
    have := hkd
    unfold bg_kd at this
    rw [hq] at this
    exact this
  simp only [bg_okm, hkq, Bool.and_eq_true, decide_eq_true_eq] at hm
  have hts := hC.2.2.2.2.1
  have hvs : ∀ v ∈ as, bg_vk Hh.1.length v := fun v hv => h.vk v (List.mem_append_left _ (List.mem_reverse.mpr hv))
  have hrs : ∀ v ∈ rest, bg_vk Hh.1.length v := fun v hv => h.vk v (List.mem_append_right _ hv)
  refine bg_back hC (k := a) (bg_ret_ok hk) (av := (as.map (bg_cv ad)).toArray) h hrs ?_ (fun v H' hv => hv)
  refine va_runS (As := as.map (bg_cv ad)) (nL := M.2.2.1) ⟨hC.1, hC.2.1, hC.2.2.1, hC.2.2.2.1, hts⟩ (hM a M' hk D cy ad Hh H.size _ _ h.2.2.2.2.1 hvs hw) ⟨bg_callB hC (n := b) hk hl hn hRf hRl, hts _ (bg_wd_in hm.2)⟩ ⟨bg_blind, bg_pre (as := as) hC h⟩ rfl (by rw [List.length_map]; exact hlen) h.2.2.2.1.1 ?_ (lv_room (by rw [bg_cats_eq]; exact h8)) hd ⟨h1, h2⟩
  show List.map (bg_cv ad) (as.reverse ++ rest) = _
  simp [List.map_append, List.map_reverse]
theorem bg_w_ob : Cond.instanceMethod objectInit ∈ bg_tbl := by decide +kernel
theorem bg_w_oc : Cond.code objectInit ⟨#[0xb1]⟩ 1 none ∈ bg_tbl := by decide +kernel
theorem sm_objinit (hC : bg_Cx p s m args meth c D cy A M) {i k : Nat} (hRf : 1 ≤ R.frames) (hRl : 200 ≤ R.locals) (hd : decode M.2.1 pc = .ok (.invokespecial i, 3)) (hl : Cond.methodLink M.1.cls i objectInit ∈ bg_tbl) (h8 : bg_cats r ≤ 8) (hk : bg_Sim p l e R s m args below meth c Q D cy A E0 M.2.2.1 (pc + 3, L, r, Hh, cn)) : bg_Sim p l e R s m args below meth c Q D cy A E0 M.2.2.1 (pc, L, .inr (.inr (some k)) :: r, Hh, cn) := by
  intro ad H locs ls h
  have hts := hC.2.2.2.2.1
  refine W.objInit hC.1 hC.2.1 hC.2.2.2.1 (hts _ hl) (hts _ bg_w_ob) (hts _ bg_w_oc) rfl (h.2.2.2.1.1.trans hC.2.2.1.symm) (a := ad k) (rest := r.map (bg_cv ad)) rfl hd hRf ?_ (hk ad H locs ls (h.stk (bg_tl h.vk)))
  have := bg_cats_eq ad r
  show 2 * 0 + _ + 12 ≤ _
  omega
theorem bg_w_m1 : Cond.static Lib.Math.max.name ∈ bg_tbl ∧ Cond.initialized "java/lang/Math" ∈ bg_tbl ∧ Cond.code Lib.Math.max.name Lib.Math.max.code 2 (some .int) ∈ bg_tbl := by decide +kernel
theorem bg_w_m2 : Cond.static Lib.Math.min.name ∈ bg_tbl ∧ Cond.code Lib.Math.min.name Lib.Math.min.code 2 (some .int) ∈ bg_tbl := by decide +kernel
/-- the class calls no Math.max of longs: no link of the tables leads there -/
def bg_isl (y : MethodName) (w : Cond) : Bool := match w with
  | .methodLink _ _ z => decide (z = y)
  | _ => false
theorem bg_no_m3 : lw_tbl.all (fun w => !(bg_isl Lib.MathLoose.max_long.x w)) = true := by decide +kernel
theorem sm_mmax (hC : bg_Cx p s m args meth c D cy A M) {i : Nat} {x y : Int} (hRf : 1 ≤ R.frames) (hRl : 200 ≤ R.locals) (h1 : cn.1 ≤ R.cells) (h2 : cn.2 ≤ R.slots) (hd : decode M.2.1 pc = .ok (.invokestatic i, 3)) (hl : Cond.methodLink M.1.cls i Lib.Math.max.name ∈ bg_tbl) (h8 : bg_cats r ≤ 8) (hk : bg_Sim p l e R s m args below meth c Q D cy A E0 M.2.2.1 (pc + 3, L, .inl (if bg_w x < bg_w y then y else x) :: r, Hh, cn)) : bg_Sim p l e R s m args below meth c Q D cy A E0 M.2.2.1 (pc, L, .inl y :: .inl x :: r, Hh, cn) := by
  intro ad H locs ls h
  have hts := hC.2.2.2.2.1
  refine va_mmax hC.1 hC.2.1 (hC.2.2.1.trans h.2.2.2.1.1.symm) hC.2.2.2.1 (hts _ hl) (hts _ bg_w_m1.1) (hts _ bg_w_m1.2.1) (hts _ bg_w_m1.2.2) hRf (by rw [bg_cats_eq]; omega) h1 h2 hd ?_
  have hz := hk ad H locs ls (h.stk (bg_vk2 trivial (bg_tl (bg_tl h.vk))))
  have e1 : (if Int32.ofInt x < Int32.ofInt y then Int32.ofInt y else Int32.ofInt x) = Int32.ofInt (if bg_w x < bg_w y then y else x) := by
    simp only [Int32.lt_iff_toInt_lt]
    show (if bg_w x < bg_w y then Int32.ofInt y else Int32.ofInt x) = _
    split <;> rfl
  rw [e1]
  exact hz
theorem sm_mmin (hC : bg_Cx p s m args meth c D cy A M) {i : Nat} {x y : Int} (hRf : 1 ≤ R.frames) (hRl : 200 ≤ R.locals) (h1 : cn.1 ≤ R.cells) (h2 : cn.2 ≤ R.slots) (hd : decode M.2.1 pc = .ok (.invokestatic i, 3)) (hl : Cond.methodLink M.1.cls i Lib.Math.min.name ∈ bg_tbl) (h8 : bg_cats r ≤ 8) (hk : bg_Sim p l e R s m args below meth c Q D cy A E0 M.2.2.1 (pc + 3, L, .inl (if bg_w y < bg_w x then y else x) :: r, Hh, cn)) : bg_Sim p l e R s m args below meth c Q D cy A E0 M.2.2.1 (pc, L, .inl y :: .inl x :: r, Hh, cn) := by
  intro ad H locs ls h
  have hts := hC.2.2.2.2.1
  refine va_mmin hC.1 hC.2.1 (hC.2.2.1.trans h.2.2.2.1.1.symm) hC.2.2.2.1 (hts _ hl) (hts _ bg_w_m2.1) (hts _ bg_w_m1.2.1) (hts _ bg_w_m2.2) hRf (by rw [bg_cats_eq]; omega) h1 h2 hd ?_
  have hz := hk ad H locs ls (h.stk (bg_vk2 trivial (bg_tl (bg_tl h.vk))))
  have e1 : (if Int32.ofInt y < Int32.ofInt x then Int32.ofInt y else Int32.ofInt x) = Int32.ofInt (if bg_w y < bg_w x then y else x) := by
    simp only [Int32.lt_iff_toInt_lt]
    show (if bg_w y < bg_w x then Int32.ofInt y else Int32.ofInt x) = _
    split <;> rfl
  rw [e1]
  exact hz
theorem sm_mmaxl (hC : bg_Cx p s m args meth c D cy A M) {i : Nat} {x y : Int} (hRf : 1 ≤ R.frames) (hRl : 200 ≤ R.locals) (h1 : cn.1 ≤ R.cells) (h2 : cn.2 ≤ R.slots) (hd : decode M.2.1 pc = .ok (.invokestatic i, 3)) (hl : Cond.methodLink M.1.cls i Lib.MathLoose.max_long.x ∈ bg_tbl) (h8 : bg_cats r ≤ 8) (hk : bg_Sim p l e R s m args below meth c Q D cy A E0 M.2.2.1 (pc + 3, L, .inr (.inl (if bg_W y < bg_W x then x else y)) :: r, Hh, cn)) : bg_Sim p l e R s m args below meth c Q D cy A E0 M.2.2.1 (pc, L, .inr (.inl y) :: .inr (.inl x) :: r, Hh, cn) := by
  exfalso
  have h0 := (List.mem_filter.mp hl).1
  have h1 := List.all_eq_true.mp bg_no_m3 _ h0
  simp [bg_isl] at h1
end BgD
