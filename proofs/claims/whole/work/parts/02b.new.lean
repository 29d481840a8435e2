def fx_up (X : fx_M) (c n : Nat) : fx_M := (X.1, X.2.1, X.2.2.1, X.2.2.2.1, (X.2.2.2.2.1, X.2.2.2.2.2.1 + c, X.2.2.2.2.2.2 + n))
section FXN
variable {X : fx_M} {l : Launch} {rm : Room} {D : va_G} {cl : List vw_C} {tys : List (ClassId × FieldType)} {cc : ByteArray} {Ts : List Cond} {own : String} {ws : va_W} {pc : Nat} {pl : List (Option Value)} {st : List Value}
theorem jr_newa {atype : ArrayType} {ty : FieldType} {N : Nat} {a0 : vp_A} (C : fx_C X l rm D cl tys cc Ts own) (harr : Cond.arrayClass ty ∈ Ts) (hty : newarray.typeOf atype = ty) (ha : ∀ cA : ClassId, vp_cell cA a0 = arrV cA N (fun _ => defaultValue ty)) (hN : N < 2 ^ 31) (hbytes : N * componentBytes ty ≤ 536870912) (hc : X.2.2.2.2.2.1 + 1 ≤ rm.cells) (hs : X.2.2.2.2.2.2 + N ≤ rm.slots) (hd : decode cc pc = .ok (.newarray atype, 2))
    (kk : ∀ (q : Nat) (cA : ClassId), fx_C (fx_up X 1 N) l rm D cl (tys ++ [(cA, ty)]) cc Ts own → fx_J (fx_up X 1 N) (ws ++ [(q, .inl (cA, a0))]) (pc + 2) pl (.ref q :: st)) : fx_J X ws pc pl (.int (nI N) :: st) := by
  intro H locs ls hP hD hS hl
  obtain ⟨hx, hb, hml, hown, hts, hK, hA, hl0, hrm, hDD, hcl2, hfit⟩ := C
  obtain ⟨⟨p, l2, e, R⟩, ⟨s, m, args, below⟩, ⟨meth, c, Q⟩, ⟨D2, cl2, A⟩, nL, cells, slots⟩ := X
  dsimp only [fx_up] at hx hb hml hown hts hK hA hl0 hrm hDD hcl2 hfit hP hD hS hl hc hs kk ⊢
  subst hl0 hrm hDD hcl2
  refine va_newa hx hb (by rw [hty]; exact hts _ harr) hty hK hP hD hS hA ha (nI_pos hN) (nI_clamp hN) hbytes hc hs hd (fun q cA H1 k1 p1 d1 s1 => ?_)
  exact kk q cA ⟨hx, hb, hml, hown, hts, k1, hA, rfl, rfl, rfl, rfl, hc, hs⟩ H1 locs ls p1 d1 s1 hl
theorem jr_objInit {idx a : Nat} (C : fx_C X l rm D cl tys cc Ts own) (h1 : Cond.methodLink own idx objectInit ∈ Ts) (h2 : Cond.instanceMethod objectInit ∈ Ts) (h3 : Cond.code objectInit ⟨#[0xb1]⟩ 1 none ∈ Ts) (hf : 1 ≤ rm.frames) (hlo : (st.map fun v => v.category).sum + 12 ≤ rm.locals) (hd : decode cc pc = .ok (.invokespecial idx, 3)) (kk : fx_J X ws (pc + 3) pl st) : fx_J X ws pc pl (.ref a :: st) := by
  intro H locs ls hP hD hS hl
  obtain ⟨hx, hb, hml, hown, hts, hK, hA, hl0, hrm, hDD, hcl2, hfit⟩ := C
  exact W.objInit hx hb hown (hts _ h1) (hts _ h2) (hts _ h3) rfl (by rw [hml]; exact hl.2.1) rfl hd (by rw [hrm]; exact hf) (by rw [hrm]; show 2 * 0 + (st.map fun v => v.category).sum + 12 ≤ _; omega) (W.eq (g2 := F0 X.2.1.2.1 (pc + 3) ls st) rfl (kk H locs ls hP hD hS hl))
end FXN
def fx_MN (l : Launch) (D : va_G) (cl : List vw_C) {S : Type} (w0 : va_W) (w : S → va_W) (tys : S → List (ClassId × FieldType)) (y : MethodName) (ts : List Cond) (rm : Room) (As : List Value) (post : S → Prop) (mc ms : Nat) : Prop :=
  ∀ sz : Nat, Met l y ts rm (fx_Pre D cl [] w0 As sz) (va_Qv post (fun u t => fx_At D cl (tys u) (va_A w0 sz) (w u) t) (va_A w0 sz)) mc ms (va_A w0 sz)
