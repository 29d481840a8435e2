theorem rc_some {n : Nat} {x : Int32} {r : Nat} (h : rc_o n x = some r) : 1 ≤ r ∧ r ≤ n := by
  unfold rc_o at h
  split at h
  · cases h
    omega
  · cases h
theorem ix_some {N : Nat} {x : Int32} {j : Nat} (h : ix_o N x = some j) : j < N := by
  unfold ix_o at h
  split at h
  · cases h
    omega
  · cases h
theorem wf_record {a : ab_T} (hw : a_wf a) : a_wf (sp_record a).2 := by
  unfold sp_record
  split
  · exact hw
  · exact wf_rec hw (by have := hw.1; omega)
theorem wf_value {a : ab_T} (hw : a_wf a) (x y z : Int32) : a_wf (sp_value a x y z).2 := by
  unfold sp_value
  split
  · next r f v h1 h2 h3 =>
    split
    · exact hw
    · next h => exact wf_val hw (rc_some h1).1 (rc_some h1).2 (by have := hw.2.1; omega)
  · exact hw
theorem wf_gone {a : ab_T} (hw : a_wf a) (x y z : Int32) : a_wf (sp_gone a x y z).2 := by
  unfold sp_gone
  split
  · split
    · exact wf_gon hw
    · exact hw
  · exact hw
theorem wf_narrower {a : ab_T} (hw : a_wf a) (x y z : Int32) : a_wf (sp_narrower a x y z).2 := by
  unfold sp_narrower
  split
  · next f v h1 h2 =>
    split
    · exact wf_nar hw (ix_some h2) (Nat.le_refl _) (fun h => by omega)
    · split
      · next u h3 =>
        split
        · exact hw
        · next h4 => exact wf_nar hw (ix_some h2) (Nat.le_of_lt (ix_some h3)) (fun _ h => h4 (bx_iff.mpr h))
      · exact hw
  · exact hw
theorem wf_hit {a : ab_T} (hw : a_wf a) (x : Int32) (on : Bool) : a_wf (sp_hit a x on).2 := by
  unfold sp_hit
  split
  · next r h => exact wf_hiS hw (rc_some h).1 (rc_some h).2
  · exact hw
theorem wf_choose {a : ab_T} (hw : a_wf a) (y z : Int32) : a_wf (sp_choose a y z).2 := by
  unfold sp_choose
  split
  · exact wf_chS hw
  · exact hw
theorem fn_top {a : ab_T} {y i r s : Int32} (h1 : sp_top a y i r) (h2 : sp_top a y i s) : r = s := by
  unfold sp_top at h1 h2
  split at h1
  · next f h => rw [h] at h2; exact rk_fun h1 h2
  · next h => rw [h] at h2; exact h1.trans h2.symm
theorem fn_below {a : ab_T} {y : Int32} {b : Bool} {z i r s : Int32} (h1 : sp_below a y b z i r) (h2 : sp_below a y b z i s) : r = s := by
  unfold sp_below at h1 h2
  split at h1
  · next f h =>
    rw [h] at h2
    dsimp only at h1 h2
    split at h1
    · next hb => rw [if_pos hb] at h2; exact rk_fun h1 h2
    · next hb =>
      rw [if_neg hb] at h2
      split at h1
      · next p hp => rw [hp] at h2; exact rk_fun h1 h2
      · next hp => rw [hp] at h2; exact h1.trans h2.symm
  · next h => rw [h] at h2; exact h1.trans h2.symm
theorem fn_left {a : ab_T} {i r s : Int32} (h1 : sp_left a i r) (h2 : sp_left a i s) : r = s := by
  have key : ∀ u v, u < 64 → v < 64 → a_left a u → a_left a v → nI (ct_n (fun s => bx_b (a_left a s)) u) = nI (ct_n (fun s => bx_b (a_left a s)) v) → ¬ u < v := by
    intro u v hu hv lu lv e h
    have e := (nI_eq (by have := ct_le (fun s => bx_b (a_left a s)) u; omega) (by have := ct_le (fun s => bx_b (a_left a s)) v; omega)).mp e
    have h3 : ct_n (fun s => bx_b (a_left a s)) (u + 1) ≤ ct_n (fun s => bx_b (a_left a s)) v := by
      obtain ⟨d, rfl⟩ : ∃ d, v = (u + 1) + d := ⟨v - (u + 1), by omega⟩
      rw [ct_shift _ (u + 1) d]
      omega
    rw [ct_st (p := fun s => bx_b (a_left a s)) (bx_iff.mpr lu)] at h3
    omega
  rcases h1 with ⟨u, hu, lu, eu, rfl⟩ | ⟨rfl, h1⟩
  · rcases h2 with ⟨v, hv, lv, ev, rfl⟩ | ⟨rfl, h2⟩
    · have h3 := key u v hu hv lu lv (eu.trans ev.symm)
      have h4 := key v u hv hu lv lu (ev.trans eu.symm)
      rw [show u = v by omega]
    · exact absurd eu (h2 u hu lu)
  · rcases h2 with ⟨v, hv, lv, ev, rfl⟩ | ⟨rfl, h2⟩
    · exact absurd ev (h1 v hv lv)
    · rfl
section LW
variable {X : fx_M} {l : Launch} {rm : Room} {D : va_G} {cl : List vw_C} {tys : List (ClassId × FieldType)} {cc : ByteArray} {Ts : List Cond} {own : String} {ws : va_W} {pc : Nat} {pl : List (Option Value)} {st : List Value}
theorem jr_widen {a b : Nat} (k : fx_J (fx_up X a b) ws pc pl st) : fx_J X ws pc pl st := fun H locs ls hP hD hS hl => W.widen (k := X.2.2.2.2.2.1 + a) (n := X.2.2.2.2.2.2 + b) (Nat.le_add_right _ _) (Nat.le_add_right _ _) (k H locs ls hP hD hS hl)
theorem jr_tin {dflt lo hi : Int} {offs : Array Int} {len : Nat} {x : Int32} {off : Int} {tgt : Nat} (C : fx_C X l rm D cl tys cc Ts own) (hd : decode cc pc = .ok (.tableswitch dflt lo hi offs, len)) (h1 : ¬ x.toInt < lo) (h2 : ¬ hi < x.toInt) (ho : offs[(x.toInt - lo).toNat]? = some off) (ht : (pc : Int) + off = (tgt : Int)) (k : fx_J X ws tgt pl st) : fx_J X ws pc pl (.int x :: st) := fun H locs ls hP hD hS hl => lv_tableIn C.1 C.2.1 hd h1 h2 ho ht (k H locs ls hP hD hS hl)
theorem jr_tout {dflt lo hi : Int} {offs : Array Int} {len : Nat} {x : Int32} {tgt : Nat} (C : fx_C X l rm D cl tys cc Ts own) (hd : decode cc pc = .ok (.tableswitch dflt lo hi offs, len)) (h : x.toInt < lo ∨ hi < x.toInt) (ht : (pc : Int) + dflt = (tgt : Int)) (k : fx_J X ws tgt pl st) : fx_J X ws pc pl (.int x :: st) := fun H locs ls hP hD hS hl => lv_tableOut C.1 C.2.1 hd h ht (k H locs ls hP hD hS hl)
theorem jr_sld {b L j : Nat} {xs : Nat → Int32} (C : fx_C X l rm D cl tys cc Ts own) (hX : va_X b L xs X.2.1.1 X.2.1.1.heap) (hbl : b < X.2.1.1.heap.size) (hbA : ¬ X.2.2.2.1.2.2 b) (hj : j < L) (hL : L < 2 ^ 31) (hd : decode cc pc = .ok (.iaload, 1)) (kk : fx_J X ws (pc + 1) pl (.int (xs j) :: st)) : fx_J X ws pc pl (.int (nI j) :: .ref b :: st) := fun H locs ls hP hD hS hl => va_sld C.1 C.2.1 hX hbl hbA hS (vp_in_nI hj hL) hd (by rw [nI_clamp (by omega)]; exact kk H locs ls hP hD hS hl)
theorem jr_slen {b L : Nat} {xs : Nat → Int32} (C : fx_C X l rm D cl tys cc Ts own) (hX : va_X b L xs X.2.1.1 X.2.1.1.heap) (hbl : b < X.2.1.1.heap.size) (hbA : ¬ X.2.2.2.1.2.2 b) (hd : decode cc pc = .ok (.arraylength, 1)) (kk : fx_J X ws (pc + 1) pl (.int (nI L) :: st)) : fx_J X ws pc pl (.ref b :: st) := fun H locs ls hP hD hS hl => va_slen C.1 C.2.1 hX hbl hbA hS hd (kk H locs ls hP hD hS hl)
theorem jr_new {Cn : String} {T : u_T} {N ci index : Nat} {fs : List Value} (C : fx_C X l rm D cl tys cc Ts own) (hin : ∀ w ∈ u_ws Cn T N, w ∈ Ts) (ty : Nat → FieldType) (hty : ∀ k, k < N → parseFieldDescriptor (T k).2.2.1 = some (ty k)) (hcl : Cond.classLink own index Cn ∈ Ts) (hinst : Cond.instantiable Cn N ∈ Ts) (hini : Cond.initialized Cn ∈ Ts) (hc : cl[ci]? = some (Cn, T, N)) (hfs : ∀ j, j < N → defaultValue (ty j) = vp_V fs j) (hcells : X.2.2.2.2.2.1 + 1 ≤ rm.cells) (hslots : X.2.2.2.2.2.2 + N ≤ rm.slots) (hd : decode cc pc = .ok (.new index, 3))
    (kk : ∀ q : Nat, fx_C (fx_up X 1 N) l rm D cl tys cc Ts own → fx_J (fx_up X 1 N) (ws ++ [(q, .inr (ci, fs))]) (pc + 3) pl (.ref q :: st)) : fx_J X ws pc pl st := by
  intro H locs ls hP hD hS hl
  obtain ⟨hx, hb, hml, hown, hts, hK, hA, hl0, hrm, hDD, hcl2, hfit⟩ := C
  obtain ⟨⟨p, l2, e, R⟩, ⟨s, m, args, below⟩, ⟨meth, c, Q⟩, ⟨D2, cl2, A⟩, nL, cells, slots⟩ := X
  dsimp only [fx_up] at hx hb hml hown hts hK hA hl0 hrm hDD hcl2 hfit hP hD hS hl hcells hslots kk ⊢
  subst hl0 hrm hDD hcl2
  refine va_new (ci := ci) (fs := fs) (C := Cn) (T := T) (N := N) hx hb hts hin ty hty hown (hts _ hcl) (hts _ hinst) (hts _ hini) hK hP hD hS hA hc hfs hcells hslots hd (fun q H1 p1 d1 s1 => ?_)
  exact kk q ⟨hx, hb, hml, hown, hts, hK, hA, rfl, rfl, rfl, rfl, hcells, hslots⟩ H1 locs ls p1 d1 s1 hl
theorem jr_ctor {S : Type} {w0 : va_W} {w : S → va_W} {ty2 : S → List (ClassId × FieldType)} {y : MethodName} {bytes : ByteArray} {maxL index mc ms a : Nat} {ts2 : List Cond} {rm2 : Room} {post : S → Prop} {wr : va_W} (C : fx_C X l rm D cl tys cc Ts own) (hM : fx_MN l D cl w0 w ty2 y (Cond.code y bytes maxL none :: ts2) rm2 [.ref a] post mc ms) (hG : GoodIn Ts (Cond.code y bytes maxL none :: ts2)) (hini : Cond.initialized y.cls ∈ Ts) (hlink : Cond.methodLink own index y ∈ Ts) (hinm : Cond.instanceMethod y ∈ Ts) (hyn : y.name = "<init>") (hdy : y.cls ≠ "java/lang/invoke/MethodHandle" ∧ y.cls ≠ "java/lang/invoke/VarHandle" ∧ (parseMethodDescriptor y.desc).map (fun d => d.parameters.length) = some 0) (hz : rm2.cells = mc ∧ rm2.slots = ms) (hR : rm2.frames + 1 ≤ rm.frames ∧ 8 + (maxL + 11) + rm2.locals ≤ rm.locals) (hrest : (st.map fun v => v.category).sum ≤ 8)
    (isC isR : List Nat) (hC : isC.map (fun i => ws[i]?) = w0.map some) (hCf : isC.filterMap (fun i => ws[i]?) = w0) (hCn : va_nd isC = true) (hRr : isR.map (fun i => ws[i]?) = wr.map some) (hRn : va_nd isR = true) (hdis : ∀ i ∈ isR, i ∉ isC) (hcells : X.2.2.2.2.2.1 + mc ≤ rm.cells) (hslots : X.2.2.2.2.2.2 + ms ≤ rm.slots) (hd : decode cc pc = .ok (.invokespecial index, 3))
    (kk : ∀ u : S, post u → fx_C (fx_up X mc ms) l rm D cl (tys ++ ty2 u) cc Ts own → fx_J (fx_up X mc ms) (wr ++ w u) (pc + 3) pl st) : fx_J X ws pc pl (.ref a :: st) := by
  intro H locs ls hP hD hS hl
  obtain ⟨hx, hb, hml, hown, hts, hK, hA, hl0, hrm, hDD, hcl2, hfit⟩ := C
  obtain ⟨⟨p, l2, e, R⟩, ⟨s, m, args, below⟩, ⟨meth, c, Q⟩, ⟨D2, cl2, A⟩, nL, cells, slots⟩ := X
  dsimp only [fx_up] at hx hb hml hown hts hK hA hl0 hrm hDD hcl2 hfit hP hD hS hl hcells hslots kk ⊢
  subst hl0 hrm hDD hcl2
  have hPc := hP.sub (ws' := w0) isC hCf
  have hDc := hD.sub (ws' := w0) isC hCn hC
  have hFc := va_free (wc := w0) hD hS hA isC hC
  refine va_callv (va_runI (As := []) (rest := st) ⟨hx, hb, hml, hown, hts⟩ (hM H.size) (cwI 0 hts hG rfl hz.1 hz.2 (hts _ hini) (hts _ hlink) (hts _ hinm) hyn hdy hR) ⟨fx_blind, fun U hU hW => ⟨rfl, by rw [hU], by rw [hU]; exact hPc, va_K.moved hW.alike (hK.sub (tys' := []) [] rfl), hDc.weaken (fun _ _ _ _ => trivial)⟩⟩ rfl rfl hl.2.1 rfl (lv_room hrest) hd ⟨hcells, hslots⟩) hS (fun q _ h => hFc q h) hFc (fun u t H1 locs1 ht hvm hw hB hz1 hk1 hS1 => ?_)
  obtain ⟨hP1, hK1, hD1⟩ := hB
  rw [ht] at hP1
  obtain ⟨hP2, hD2⟩ := va_join (wr := wr) (w1 := w u) hP hD isC isR hC hRr hRn hdis hk1 hFc hP1 hD1
  exact kk u hw ⟨hx, hb, hml, hown, hts, hK.app (va_K.moved hvm.symm hK1), hA, rfl, rfl, rfl, rfl, hcells, hslots⟩ H1 locs1 ls hP2 hD2 hS1 hl
theorem jr_fci {S : Type} {w W0 : S → va_W} {wr : va_W} {ty2 : List (ClassId × FieldType)} {y : MethodName} {bytes : ByteArray} {maxL index n b q0 ci N : Nat} {ret : Option FieldType} {ts2 : List Cond} {rm2 : Room} {As rest : List Value} {σ : S} {post : Int32 → S → Prop} {Cn : String} {T : u_T} {fs : List Value} (C : fx_C X l rm D cl tys cc Ts own) (hM : fx_MI l D cl ty2 w y (Cond.code y bytes maxL ret :: ts2) rm2 (.ref b :: As) σ post) (hG : GoodIn Ts (wsV own index y.cls y (Cond.code y bytes maxL ret :: ts2))) (hdy : y.cls = Cn ∧ y.cls ≠ "java/lang/invoke/MethodHandle" ∧ y.cls ≠ "java/lang/invoke/VarHandle" ∧ (parseMethodDescriptor y.desc).map (fun d => d.parameters.length) = some n) (hcl : cl[ci]? = some (Cn, T, N)) (he : (w σ)[q0]? = some (b, .inr (ci, fs))) (hn : As.length = n) (hz : rm2.cells = 0 ∧ rm2.slots = 0) (hR : rm2.frames + 1 ≤ rm.frames ∧ 8 + (maxL + 11) + rm2.locals ≤ rm.locals) (hrest : (rest.map fun v => v.category).sum ≤ 8) (hst : st = As.reverse ++ .ref b :: rest)
    (it : List Nat) (hit : it.filterMap (fun i => tys[i]?) = ty2) (isC isR isB : List Nat) (hC : isC.map (fun i => (W0 σ)[i]?) = (w σ).map some) (hCf : isC.filterMap (fun i => (W0 σ)[i]?) = w σ) (hCn : va_nd isC = true) (hRr : isR.map (fun i => (W0 σ)[i]?) = wr.map some) (hRn : va_nd isR = true) (hdis : ∀ i ∈ isR, i ∉ isC) (hBn : va_nd isB = true) (hB : ∀ u, isB.map (fun i => (wr ++ w u)[i]?) = (W0 u).map some) (hBf : ∀ u, isB.filterMap (fun i => (wr ++ w u)[i]?) = W0 u) (hd : decode cc pc = .ok (.invokevirtual index, 3))
    (kk : ∀ (r : Int32) (u : S), post r u → fx_J X (W0 u) (pc + 3) pl (.int r :: rest)) : fx_J X (W0 σ) pc pl st := by
  intro H locs ls hP hD hS hl
  obtain ⟨hx, hb, hml, hown, hts, hK, hA, hl0, hrm, hDD, hcl2, hfit⟩ := C
  obtain ⟨⟨p, l2, e, R⟩, ⟨s, m, args, below⟩, ⟨meth, c, Q⟩, ⟨D2, cl2, A⟩, nL, cells, slots⟩ := X
  dsimp only at hx hb hml hown hts hK hA hl0 hrm hDD hcl2 hfit hP hD hS hl kk ⊢
  subst hl0 hrm hDD hcl2
  have hPc := hP.sub (ws' := w σ) isC hCf
  have hDc := hD.sub (ws' := w σ) isC hCn hC
  have hKc := hK.sub (tys' := ty2) it hit
  have hFc := va_free (wc := w σ) hD hS hA isC hC
  refine va_calli (va_runV (As := As) (rest := rest) ⟨hx, hb, hml, hown, hts⟩ (hM H.size) (cwV n hts (by rw [← hdy.1]; exact hG) rfl hz.1 hz.2 hdy hR) ⟨fx_blind, va_recv hKc hPc hcl he, fun U hU hW => ⟨rfl, by rw [hU], by rw [hU]; exact hPc, va_K.moved hW.alike hKc, hDc.weaken (fun _ _ _ _ => trivial)⟩⟩ rfl hn hl.2.1 hst (lv_room hrest) hd hfit) hS (fun q _ h => hFc q h) hFc (fun r u t H1 locs1 ht hvm hw hB2 hz1 hk1 hS1 => ?_)
  obtain ⟨hP1, hK1, hD1⟩ := hB2
  rw [ht] at hP1
  obtain ⟨hP2, hD2⟩ := va_join (wr := wr) (w1 := w u) hP hD isC isR hC hRr hRn hdis hk1 hFc hP1 hD1
  exact kk r u hw H1 locs1 ls (hP2.sub isB (hBf u)) (hD2.sub isB hBn (hB u)) hS1 hl
theorem jr_fcl {S : Type} {w W0 : S → va_W} {wr : va_W} {ty2 : List (ClassId × FieldType)} {y : MethodName} {bytes : ByteArray} {maxL index n b q0 ci N : Nat} {ret : Option FieldType} {ts2 : List Cond} {rm2 : Room} {As rest : List Value} {σ : S} {post : Int64 → S → Prop} {Cn : String} {T : u_T} {fs : List Value} (C : fx_C X l rm D cl tys cc Ts own) (hM : fx_ML l D cl ty2 w y (Cond.code y bytes maxL ret :: ts2) rm2 (.ref b :: As) σ post) (hG : GoodIn Ts (wsV own index y.cls y (Cond.code y bytes maxL ret :: ts2))) (hdy : y.cls = Cn ∧ y.cls ≠ "java/lang/invoke/MethodHandle" ∧ y.cls ≠ "java/lang/invoke/VarHandle" ∧ (parseMethodDescriptor y.desc).map (fun d => d.parameters.length) = some n) (hcl : cl[ci]? = some (Cn, T, N)) (he : (w σ)[q0]? = some (b, .inr (ci, fs))) (hn : As.length = n) (hz : rm2.cells = 0 ∧ rm2.slots = 0) (hR : rm2.frames + 1 ≤ rm.frames ∧ 8 + (maxL + 11) + rm2.locals ≤ rm.locals) (hrest : (rest.map fun v => v.category).sum ≤ 8) (hst : st = As.reverse ++ .ref b :: rest)
    (it : List Nat) (hit : it.filterMap (fun i => tys[i]?) = ty2) (isC isR isB : List Nat) (hC : isC.map (fun i => (W0 σ)[i]?) = (w σ).map some) (hCf : isC.filterMap (fun i => (W0 σ)[i]?) = w σ) (hCn : va_nd isC = true) (hRr : isR.map (fun i => (W0 σ)[i]?) = wr.map some) (hRn : va_nd isR = true) (hdis : ∀ i ∈ isR, i ∉ isC) (hBn : va_nd isB = true) (hB : ∀ u, isB.map (fun i => (wr ++ w u)[i]?) = (W0 u).map some) (hBf : ∀ u, isB.filterMap (fun i => (wr ++ w u)[i]?) = W0 u) (hd : decode cc pc = .ok (.invokevirtual index, 3))
    (kk : ∀ (r : Int64) (u : S), post r u → fx_J X (W0 u) (pc + 3) pl (.long r :: rest)) : fx_J X (W0 σ) pc pl st := by
  intro H locs ls hP hD hS hl
  obtain ⟨hx, hb, hml, hown, hts, hK, hA, hl0, hrm, hDD, hcl2, hfit⟩ := C
  obtain ⟨⟨p, l2, e, R⟩, ⟨s, m, args, below⟩, ⟨meth, c, Q⟩, ⟨D2, cl2, A⟩, nL, cells, slots⟩ := X
  dsimp only at hx hb hml hown hts hK hA hl0 hrm hDD hcl2 hfit hP hD hS hl kk ⊢
  subst hl0 hrm hDD hcl2
  have hPc := hP.sub (ws' := w σ) isC hCf
  have hDc := hD.sub (ws' := w σ) isC hCn hC
  have hKc := hK.sub (tys' := ty2) it hit
  have hFc := va_free (wc := w σ) hD hS hA isC hC
  refine va_calll (va_runV (As := As) (rest := rest) ⟨hx, hb, hml, hown, hts⟩ (hM H.size) (cwV n hts (by rw [← hdy.1]; exact hG) rfl hz.1 hz.2 hdy hR) ⟨fx_blind, va_recv hKc hPc hcl he, fun U hU hW => ⟨rfl, by rw [hU], by rw [hU]; exact hPc, va_K.moved hW.alike hKc, hDc.weaken (fun _ _ _ _ => trivial)⟩⟩ rfl hn hl.2.1 hst (lv_room hrest) hd hfit) hS (fun q _ h => hFc q h) hFc (fun r u t H1 locs1 ht hvm hw hB2 hz1 hk1 hS1 => ?_)
  obtain ⟨hP1, hK1, hD1⟩ := hB2
  rw [ht] at hP1
  obtain ⟨hP2, hD2⟩ := va_join (wr := wr) (w1 := w u) hP hD isC isR hC hRr hRn hdis hk1 hFc hP1 hD1
  exact kk r u hw H1 locs1 ls (hP2.sub isB (hBf u)) (hD2.sub isB hBn (hB u)) hS1 hl
end LW
