section AL
variable {X : fx_M} {l : Launch} {rm : Room} {D : va_G} {cl : List vw_C} {tys : List (ClassId × FieldType)} {cc : ByteArray} {Ts : List Cond} {own : String} {ws : va_W} {pc : Nat} {pl : List (Option Value)} {st : List Value}
theorem jr_alen {a v : Nat} {cA : ClassId} {x : vp_A} {ty : FieldType} (C : fx_C X l rm D cl tys cc Ts own) (q0 t0 : Nat) (ha : ws[q0]? = some (a, .inl (cA, x))) (ht : tys[t0]? = some (cA, ty)) (hv : x.1 = v) (hd : decode cc pc = .ok (.arraylength, 1)) (kk : fx_J X ws (pc + 1) pl (.int (nI v) :: st)) : fx_J X ws pc pl (.ref a :: st) := by
  intro H locs ls hP hD hS hl
  obtain ⟨hx, hb, -, hown, hts, hK, -, -, -, hDD, hcl, -⟩ := C
  rw [hDD, hcl] at hP
  exact va_alen (D := D) hx hb hK hP q0 t0 ha ht (v := nI v) (by rw [hv]; rfl) hd (kk H locs ls (by rw [hDD, hcl]; exact hP) hD hS hl)
end AL
theorem fx_enterN {l : Launch} {rm : Room} {D : va_G} {cl : List vw_C} {cc : ByteArray} {ts2 : List Cond} {S : Type} {w0 : va_W} {w : S → va_W} {tys : S → List (ClassId × FieldType)} {y : MethodName} {maxL mc ms : Nat} {As : List Value} {post : S → Prop} (hy : plainName y.cls = true) (hyn : y.name = "<init>") (pl : List (Option Value)) (hpl : fx_fl 0 pl = lv_args 0 As) (hlen : pl.length ≤ maxL) (hln : (lg_sl As).length ≤ maxL)
    (body : ∀ X : fx_M, fx_C X l rm D cl [] cc (Cond.code y cc maxL none :: ts2) y.cls → X.2.2.1.1.name = "<init>" → X.2.2.2.2.2.1 = 0 → X.2.2.2.2.2.2 = 0 → (∀ (X2 : fx_M) (u : S) (pc : Nat) (pl2 : List (Option Value)), X2.1 = X.1 → X2.2.1 = X.2.1 → X2.2.2.1 = X.2.2.1 → X2.2.2.2.1 = X.2.2.2.1 → X2.2.2.2.2.2.1 = mc → X2.2.2.2.2.2.2 = ms → va_K D cl (tys u) X.2.1.1 → decode cc pc = .ok (.return_, 1) → post u → fx_J X2 (w u) pc pl2 []) → fx_J X w0 0 pl []) : fx_MN l D cl w0 w tys y (Cond.code y cc maxL none :: ts2) rm As post mc ms := by
  intro sz
  refine Met.ofW (cc := cc) (maxL := maxL) (ret := none) hy rfl ?_
  intro p e s m args below meth c s₁ B hml hv
  obtain ⟨rfl, hsz, hP, hK, hD0⟩ := hv
  have hx := B.exec
  have hb := B.bytes
  have hr := B.returns
  have hts := atoms_spec (ws := Cond.code y cc maxL none :: ts2) B.pre
  have hown : s.vm.findClass y.cls = some m.cls := findClass_of_methodNamed B.named
  have hlocks : meth.locks = false := B.notSynchronized
  have hin : meth.name = "<init>" := (name_of_methodNamed B.named B.method).1.trans hyn
  subst hsz
  have hD := hD0.self (sz := s.heap.size)
  have hl := lv_entry As (n := maxL) hln
  rw [lg_entry_eq]
  refine body ((p, l, e, rm), (s, m, As.toArray, below), (meth, c, MQ below (va_Qv post (fun u t => fx_At D cl (tys u) (va_A w0 s.heap.size) (w u) t) (va_A w0 s.heap.size)) As.toArray s mc ms (va_A w0 s.heap.size)), (D, cl, va_A w0 s.heap.size), (maxL, 0, 0)) ⟨hx, hb, hml, hown, hts, hK, fun q h => Or.inr h, rfl, rfl, rfl, rfl, Nat.zero_le _, Nat.zero_le _⟩ hin rfl rfl ?_ s.heap [] _ hP hD va_S.rf ⟨hlen, by rw [hpl]; exact hl⟩
  intro X2 u pc pl2 e1 e2 e3 e4 e5 e6 hK2 hd hp
  obtain ⟨X21, X22, X23, X24, nL2, cells2, slots2⟩ := X2
  dsimp only at e1 e2 e3 e4 e5 e6 hK2
  subst e1 e2 e3 e4 e5 e6
  intro H locs ls hP2 hD2 hS2 hl2
  exact W.vret hx hb hr (fun t ht hW => ⟨⟨u, rfl, hp, by rw [ht]; exact hP2, va_K.moved hW.alike hK2, hD2⟩, hS2.F ht⟩) hS2.2.2 hd hlocks
theorem cJ_fill (l : Launch) (D : va_G) (tys : List (ClassId × FieldType)) (w : (Nat → Int32) → va_W) (a n q0 t0 : Nat) (cA : ClassId) (hn : n < 2 ^ 31) (ha : ∀ f, (w f)[q0]? = some (a, .inl (cA, n, .inl f))) (hset : ∀ f g, (w f).set q0 (a, .inl (cA, n, .inl g)) = w g) (ht : tys[t0]? = some (cA, .int)) (f0 : Nat → Int32) (v : Int32) : fx_MV l D cl_s tys w y_JA_fill (k_JA_fill :: tb_l) rm_JA_fill [.ref a, .int v] f0 (fun f => ∀ j, j < n → f j = v) := by
  refine fx_enterV (by decide +kernel) [some (.ref a), some (.int v), none, none] rfl (Nat.le_of_ble_eq_true rfl) (Nat.le_of_ble_eq_true rfl) (fun X C hR => ?_)
  refine jr_iconst (v := nI 0) C d_JA_fill_0 (by decide) ?_
  refine jr_istore_2 C d_JA_fill_1 rfl ?_
  refine jr_aload_0 C d_JA_fill_2 ?_
  refine jr_alen C q0 t0 (ha f0) ht rfl d_JA_fill_3 ?_
  refine jr_istore_3 C d_JA_fill_4 rfl ?_
  have L := lp_up (P := fun i => ∀ f : Nat → Int32, (∀ j, j < i → f j = v) → fx_J X (w f) 5 [some (.ref a), some (.int v), some (.int (nI i)), some (.int (nI n))] []) n (fun i hi ih f hf => ?_)
  · exact L 0 (by omega) f0 (fun j hj => by omega)
  · refine jr_iload_2 C d_JA_fill_5 ?_
    refine jr_iload_3 C d_JA_fill_6 ?_
    refine jr_N_ge (tgt := 20) C d_JA_fill_7 (by decide) (by omega) (by omega) (fun h => ?_) (fun h => ?_)
    · exact hR _ _ _ d_JA_fill_20 (fun j hj => hf j (by omega))
    · refine jr_aload_0 C d_JA_fill_10 ?_
      refine jr_iload_2 C d_JA_fill_11 ?_
      refine jr_iload_1 C d_JA_fill_12 ?_
      refine jr_iast C q0 t0 (ha f) ht h hn (hset f _) d_JA_fill_13 ?_
      refine jr_incN_2 C d_JA_fill_14 rfl ?_
      refine jr_goto (tgt := 5) C d_JA_fill_17 (by decide) ?_
      refine ih h _ (fun j hj => ?_)
      by_cases e : j = i
      · rw [e]; exact pk_us
      · rw [pk_un e]; exact hf j (by omega)
def a_0 : ab_T := ((0, 0), (fun _ _ _ => false), (fun _ _ => 100), (fun _ => false), (fun _ _ => false))
theorem wf_0 : a_wf a_0 := ⟨by decide, by decide, fun _ _ _ h => absurd h Bool.false_ne_true, fun _ h => absurd h Bool.false_ne_true, fun _ => ⟨fun _ => Nat.le_refl _, fun _ _ => rfl, fun _ => 0, fun _ _ h => absurd h (by show ¬ 100 < 100; decide)⟩⟩
abbrev rm_X_init : Room := { frames := 1, cells := 5, slots := 2500, locals := 23 }
abbrev rm_M_init : Room := { frames := 1, cells := 9, slots := 3094, locals := 23 }

theorem cX_init (l : Launch) (D : va_G) (q0 : Nat) : fx_MN l D cl_s [(q0, .inr (0, [.null, .null, .null, .null, .null, .int 0, .int 0, .long 0]))] (fun u : (Nat → Nat) × (Nat → ClassId) × sx_T => w_X u.1 u.2.1 u.2.2) (fun u => ty_X u.2.1) y_X_init (k_X_init :: tb_l) rm_X_init [.ref q0] (fun u => u.1 0 = q0 ∧ rx_r a_0 u.2.2) 5 2500 := by
  refine fx_enterN (by decide +kernel) rfl [some (.ref q0)] rfl (Nat.le_of_ble_eq_true rfl) (Nat.le_of_ble_eq_true rfl) (fun X C hin hc0 hs0 hR => ?_)
  refine jr_aload_0 C d_X_init_0 ?_
  refine jr_objInit C (List.mem_cons_of_mem _ ml_X_obj) (List.mem_cons_of_mem _ im_obj) (List.mem_cons_of_mem _ ci_obj) (Nat.le_of_ble_eq_true rfl) (Nat.le_of_ble_eq_true rfl) d_X_init_1 ?_
  refine jr_aload_0 C d_X_init_4 ?_
  refine jr_sipush (v := nI 600) C d_X_init_5 (by decide) ?_
  refine jr_newa (a0 := (600, .inr (.inl (fun _ => 0)))) C (List.mem_cons_of_mem _ ac_long) rfl (fun _ => rfl) (by omega) (by decide) (by show X.2.2.2.2.2.1 + 1 ≤ _; rw [hc0]; decide) (by show X.2.2.2.2.2.2 + 600 ≤ _; rw [hs0]; decide) d_X_init_8 (fun q1 c1 C => ?_)
  refine jr_w (ws2 := [(q0, .inr (0, [.null, .null, .null, .null, .null, .int 0, .int 0, .long 0])), (q1, .inl (c1, 600, .inr (.inl (fun _ => 0))))]) rfl ?_
  refine jr_putF (ty := .array .long) (ws2 := [(q0, .inr (0, [.ref q1, .null, .null, .null, .null, .int 0, .int 0, .long 0])), (q1, .inl (c1, 600, .inr (.inl (fun _ => 0))))]) C hin (fun w h => List.mem_cons_of_mem _ (u_X_in w h)) t_X t_X_ok n_X (ci := 0) rfl 0 0 rfl (by decide) (List.mem_cons_of_mem _ fl_X_holders) rfl rfl (t_X_ok 0 (by decide)) rfl rfl (Nat.le_of_ble_eq_true rfl) rfl d_X_init_10 ?_
  refine jr_aload_0 C d_X_init_13 ?_
  refine jr_sipush (v := nI 600) C d_X_init_14 (by decide) ?_
  refine jr_newa (a0 := (600, .inr (.inl (fun _ => 0)))) C (List.mem_cons_of_mem _ ac_long) rfl (fun _ => rfl) (by omega) (by decide) (by show X.2.2.2.2.2.1 + 1 + 1 ≤ _; rw [hc0]; decide) (by show X.2.2.2.2.2.2 + 600 + 600 ≤ _; rw [hs0]; decide) d_X_init_17 (fun q2 c2 C => ?_)
  refine jr_w (ws2 := [(q0, .inr (0, [.ref q1, .null, .null, .null, .null, .int 0, .int 0, .long 0])), (q1, .inl (c1, 600, .inr (.inl (fun _ => 0)))), (q2, .inl (c2, 600, .inr (.inl (fun _ => 0))))]) rfl ?_
  refine jr_putF (ty := .array .long) (ws2 := [(q0, .inr (0, [.ref q1, .ref q2, .null, .null, .null, .int 0, .int 0, .long 0])), (q1, .inl (c1, 600, .inr (.inl (fun _ => 0)))), (q2, .inl (c2, 600, .inr (.inl (fun _ => 0))))]) C hin (fun w h => List.mem_cons_of_mem _ (u_X_in w h)) t_X t_X_ok n_X (ci := 0) rfl 0 1 rfl (by decide) (List.mem_cons_of_mem _ fl_X_havers) rfl rfl (t_X_ok 1 (by decide)) rfl rfl (Nat.le_of_ble_eq_true rfl) rfl d_X_init_19 ?_
  refine jr_aload_0 C d_X_init_22 ?_
  refine jr_sipush (v := nI 600) C d_X_init_23 (by decide) ?_
  refine jr_newa (a0 := (600, .inl (fun _ => 0))) C (List.mem_cons_of_mem _ ac_int) rfl (fun _ => rfl) (by omega) (by decide) (by show X.2.2.2.2.2.1 + 1 + 1 + 1 ≤ _; rw [hc0]; decide) (by show X.2.2.2.2.2.2 + 600 + 600 + 600 ≤ _; rw [hs0]; decide) d_X_init_26 (fun q3 c3 C => ?_)
  refine jr_w (ws2 := [(q0, .inr (0, [.ref q1, .ref q2, .null, .null, .null, .int 0, .int 0, .long 0])), (q1, .inl (c1, 600, .inr (.inl (fun _ => 0)))), (q2, .inl (c2, 600, .inr (.inl (fun _ => 0)))), (q3, .inl (c3, 600, .inl (fun _ => 0)))]) rfl ?_
  refine jr_putF (ty := .array .int) (ws2 := [(q0, .inr (0, [.ref q1, .ref q2, .ref q3, .null, .null, .int 0, .int 0, .long 0])), (q1, .inl (c1, 600, .inr (.inl (fun _ => 0)))), (q2, .inl (c2, 600, .inr (.inl (fun _ => 0)))), (q3, .inl (c3, 600, .inl (fun _ => 0)))]) C hin (fun w h => List.mem_cons_of_mem _ (u_X_in w h)) t_X t_X_ok n_X (ci := 0) rfl 0 2 rfl (by decide) (List.mem_cons_of_mem _ fl_X_broaderOf) rfl rfl (t_X_ok 2 (by decide)) rfl rfl (Nat.le_of_ble_eq_true rfl) rfl d_X_init_28 ?_
  refine jr_aload_0 C d_X_init_31 ?_
  refine jr_get C (fun w h => List.mem_cons_of_mem _ (u_X_in w h)) (ci := 0) rfl 0 2 rfl (by decide) (List.mem_cons_of_mem _ fl_X_broaderOf) rfl d_X_init_32 ?_
  refine jr_iconst (v := -1) C d_X_init_35 (by decide) ?_
  refine jr_callSv (w := (fun f => [(q0, .inr (0, [.ref q1, .ref q2, .ref q3, .null, .null, .int 0, .int 0, .long 0])), (q1, .inl (c1, 600, .inr (.inl (fun _ => 0)))), (q2, .inl (c2, 600, .inr (.inl (fun _ => 0)))), (q3, .inl (c3, 600, .inl f))])) (σ := fun _ => 0) (As := [.ref q3, .int (-1)]) (rest := []) C (cJ_fill l D _ (fun f => [(q0, .inr (0, [.ref q1, .ref q2, .ref q3, .null, .null, .int 0, .int 0, .long 0])), (q1, .inl (c1, 600, .inr (.inl (fun _ => 0)))), (q2, .inl (c2, 600, .inr (.inl (fun _ => 0)))), (q3, .inl (c3, 600, .inl f))]) q3 600 3 2 c3 (by omega) (fun _ => rfl) (fun _ _ => rfl) rfl (fun _ => 0) (-1)) (gd_S ci_JA_fill ml_X_JA_fill st_JA_fill ii_JA) (n := 2) (by decide +kernel) rfl ⟨rfl, rfl⟩ ⟨Nat.le_of_ble_eq_true rfl, Nat.le_of_ble_eq_true rfl⟩ (Nat.le_of_ble_eq_true rfl) rfl d_X_init_36 (fun fb hfb => ?_)
  refine jr_w (ws2 := [(q0, .inr (0, [.ref q1, .ref q2, .ref q3, .null, .null, .int 0, .int 0, .long 0])), (q1, .inl (c1, 600, .inr (.inl (fun _ => 0)))), (q2, .inl (c2, 600, .inr (.inl (fun _ => 0)))), (q3, .inl (c3, 600, .inl fb))]) rfl ?_
  refine jr_aload_0 C d_X_init_39 ?_
  refine jr_sipush (v := nI 600) C d_X_init_40 (by decide) ?_
  refine jr_newa (a0 := (600, .inl (fun _ => 0))) C (List.mem_cons_of_mem _ ac_boolean) rfl (fun _ => rfl) (by omega) (by decide) (by show X.2.2.2.2.2.1 + 1 + 1 + 1 + 1 ≤ _; rw [hc0]; decide) (by show X.2.2.2.2.2.2 + 600 + 600 + 600 + 600 ≤ _; rw [hs0]; decide) d_X_init_43 (fun q4 c4 C => ?_)
  refine jr_w (ws2 := [(q0, .inr (0, [.ref q1, .ref q2, .ref q3, .null, .null, .int 0, .int 0, .long 0])), (q1, .inl (c1, 600, .inr (.inl (fun _ => 0)))), (q2, .inl (c2, 600, .inr (.inl (fun _ => 0)))), (q3, .inl (c3, 600, .inl fb)), (q4, .inl (c4, 600, .inl (fun _ => 0)))]) rfl ?_
  refine jr_putF (ty := .array .boolean) (ws2 := [(q0, .inr (0, [.ref q1, .ref q2, .ref q3, .ref q4, .null, .int 0, .int 0, .long 0])), (q1, .inl (c1, 600, .inr (.inl (fun _ => 0)))), (q2, .inl (c2, 600, .inr (.inl (fun _ => 0)))), (q3, .inl (c3, 600, .inl fb)), (q4, .inl (c4, 600, .inl (fun _ => 0)))]) C hin (fun w h => List.mem_cons_of_mem _ (u_X_in w h)) t_X t_X_ok n_X (ci := 0) rfl 0 3 rfl (by decide) (List.mem_cons_of_mem _ fl_X_chosen) rfl rfl (t_X_ok 3 (by decide)) rfl rfl (Nat.le_of_ble_eq_true rfl) rfl d_X_init_45 ?_
  refine jr_aload_0 C d_X_init_48 ?_
  refine jr_bipush (v := nI 100) C d_X_init_49 (by decide) ?_
  refine jr_newa (a0 := (100, .inl (fun _ => 0))) C (List.mem_cons_of_mem _ ac_int) rfl (fun _ => rfl) (by omega) (by decide) (by show X.2.2.2.2.2.1 + 1 + 1 + 1 + 1 + 1 ≤ _; rw [hc0]; decide) (by show X.2.2.2.2.2.2 + 600 + 600 + 600 + 600 + 100 ≤ _; rw [hs0]; decide) d_X_init_51 (fun q5 c5 C => ?_)
  refine jr_w (ws2 := [(q0, .inr (0, [.ref q1, .ref q2, .ref q3, .ref q4, .null, .int 0, .int 0, .long 0])), (q1, .inl (c1, 600, .inr (.inl (fun _ => 0)))), (q2, .inl (c2, 600, .inr (.inl (fun _ => 0)))), (q3, .inl (c3, 600, .inl fb)), (q4, .inl (c4, 600, .inl (fun _ => 0))), (q5, .inl (c5, 100, .inl (fun _ => 0)))]) rfl ?_
  refine jr_putF (ty := .array .int) (ws2 := [(q0, .inr (0, [.ref q1, .ref q2, .ref q3, .ref q4, .ref q5, .int 0, .int 0, .long 0])), (q1, .inl (c1, 600, .inr (.inl (fun _ => 0)))), (q2, .inl (c2, 600, .inr (.inl (fun _ => 0)))), (q3, .inl (c3, 600, .inl fb)), (q4, .inl (c4, 600, .inl (fun _ => 0))), (q5, .inl (c5, 100, .inl (fun _ => 0)))]) C hin (fun w h => List.mem_cons_of_mem _ (u_X_in w h)) t_X t_X_ok n_X (ci := 0) rfl 0 4 rfl (by decide) (List.mem_cons_of_mem _ fl_X_counts) rfl rfl (t_X_ok 4 (by decide)) rfl rfl (Nat.le_of_ble_eq_true rfl) rfl d_X_init_53 ?_
  obtain ⟨qf, eq⟩ : ∃ qf : Nat → Nat, qf = (fun i => match i with | 0 => q0 | 1 => q1 | 2 => q2 | 3 => q3 | 4 => q4 | _ => q5) := ⟨_, rfl⟩
  obtain ⟨kf, ek⟩ : ∃ kf : Nat → ClassId, kf = (fun i => match i with | 0 => c1 | 1 => c1 | 2 => c2 | 3 => c3 | 4 => c4 | _ => c5) := ⟨_, rfl⟩
  have C : fx_C (fx_up (fx_up (fx_up (fx_up (fx_up X 1 600) 1 600) 1 600) 1 600) 1 100) l rm_X_init D cl_s (ty_X kf) b_X_init (k_X_init :: tb_l) R_X := by rw [ek]; exact C
  refine jr_w (ws2 := w_X qf kf (((fun _ => 0), (fun _ => 0), fb, (fun _ => 0), (fun _ => 0)), (0, 0, 0))) (by rw [eq, ek]; rfl) ?_
  have e0 : qf 0 = q0 := by rw [eq]; rfl
  rw [← e0]
  refine jr_aload_0 C d_X_init_56 ?_
  refine jr_iconst (v := nI 0) C d_X_init_57 (by decide) ?_
  refine pX_records C d_X_init_58 ?_
  refine jr_aload_0 C d_X_init_61 ?_
  refine jr_iconst (v := nI 0) C d_X_init_62 (by decide) ?_
  refine pX_held C d_X_init_63 ?_
  refine jr_aload_0 C d_X_init_66 ?_
  refine jr_lconst (v := 0) C d_X_init_67 (by decide) ?_
  refine pX_hits C d_X_init_68 ?_
  refine hR _ (qf, kf, _) _ _ rfl rfl rfl rfl (by show X.2.2.2.2.2.1 + 1 + 1 + 1 + 1 + 1 = 5; omega) (by show X.2.2.2.2.2.2 + 600 + 600 + 600 + 600 + 100 = 2500; omega) C.2.2.2.2.2.1 d_X_init_71 ⟨e0, rfl, rfl, fun f v r _ _ _ => tb_0 r, fun f v r _ _ _ => ?_, fun f v hf hv => ?_, fun f v _ _ => nI_0.symm, fun r _ => tb_0 r⟩
  · rw [bx_neg.mpr (fun ⟨w, _, g, _⟩ => absurd g Bool.false_ne_true)]
    exact tb_0 r
  · exact hfb _ (by omega)
theorem cM_init (l : Launch) (D : va_G) (q0 : Nat) : fx_MN l D cl_s [(q0, .inr (1, [.int 0, .int 0, .int 0, .null, .null, .null, .null, .null, .null, .null, .null, .null, .int 0]))] (fun u : (Nat → Nat) × (Nat → ClassId) × sm_T => w_M u.1 u.2.1 u.2.2) (fun u => ty_M u.2.1) y_M_init (k_M_init :: tb_l) rm_M_init [.ref q0] (fun u => u.1 0 = q0 ∧ rm_r a_0 (fun _ => (0, 0, 0)) u.2.2) 9 3094 := by
  refine fx_enterN (by decide +kernel) rfl [some (.ref q0), none] rfl (Nat.le_of_ble_eq_true rfl) (Nat.le_of_ble_eq_true rfl) (fun X C hin hc0 hs0 hR => ?_)
  refine jr_aload_0 C d_M_init_0 ?_
  refine jr_objInit C (List.mem_cons_of_mem _ ml_M_obj) (List.mem_cons_of_mem _ im_obj) (List.mem_cons_of_mem _ ci_obj) (Nat.le_of_ble_eq_true rfl) (Nat.le_of_ble_eq_true rfl) d_M_init_1 ?_
  refine jr_aload_0 C d_M_init_4 ?_
  refine jr_sipush (v := nI 1200) C d_M_init_5 (by decide) ?_
  refine jr_newa (a0 := (1200, .inl (fun _ => 0))) C (List.mem_cons_of_mem _ ac_int) rfl (fun _ => rfl) (by omega) (by decide) (by show X.2.2.2.2.2.1 + 1 ≤ _; rw [hc0]; decide) (by show X.2.2.2.2.2.2 + 1200 ≤ _; rw [hs0]; decide) d_M_init_8 (fun q1 c1 C => ?_)
  refine jr_w (ws2 := [(q0, .inr (1, [.int 0, .int 0, .int 0, .null, .null, .null, .null, .null, .null, .null, .null, .null, .int 0])), (q1, .inl (c1, 1200, .inl (fun _ => 0)))]) rfl ?_
  refine jr_putF (ty := .array .int) (ws2 := [(q0, .inr (1, [.int 0, .int 0, .int 0, .ref q1, .null, .null, .null, .null, .null, .null, .null, .null, .int 0])), (q1, .inl (c1, 1200, .inl (fun _ => 0)))]) C hin (fun w h => List.mem_cons_of_mem _ (u_M_in w h)) t_M t_M_ok n_M (ci := 1) rfl 0 3 rfl (by decide) (List.mem_cons_of_mem _ fl_M_rows) rfl rfl (t_M_ok 3 (by decide)) rfl rfl (Nat.le_of_ble_eq_true rfl) rfl d_M_init_10 ?_
  refine jr_aload_0 C d_M_init_13 ?_
  refine jr_sipush (v := nI 600) C d_M_init_14 (by decide) ?_
  refine jr_newa (a0 := (600, .inl (fun _ => 0))) C (List.mem_cons_of_mem _ ac_int) rfl (fun _ => rfl) (by omega) (by decide) (by show X.2.2.2.2.2.1 + 1 + 1 ≤ _; rw [hc0]; decide) (by show X.2.2.2.2.2.2 + 1200 + 600 ≤ _; rw [hs0]; decide) d_M_init_17 (fun q2 c2 C => ?_)
  refine jr_w (ws2 := [(q0, .inr (1, [.int 0, .int 0, .int 0, .ref q1, .null, .null, .null, .null, .null, .null, .null, .null, .int 0])), (q1, .inl (c1, 1200, .inl (fun _ => 0))), (q2, .inl (c2, 600, .inl (fun _ => 0)))]) rfl ?_
  refine jr_putF (ty := .array .int) (ws2 := [(q0, .inr (1, [.int 0, .int 0, .int 0, .ref q1, .ref q2, .null, .null, .null, .null, .null, .null, .null, .int 0])), (q1, .inl (c1, 1200, .inl (fun _ => 0))), (q2, .inl (c2, 600, .inl (fun _ => 0)))]) C hin (fun w h => List.mem_cons_of_mem _ (u_M_in w h)) t_M t_M_ok n_M (ci := 1) rfl 0 4 rfl (by decide) (List.mem_cons_of_mem _ fl_M_broader) rfl rfl (t_M_ok 4 (by decide)) rfl rfl (Nat.le_of_ble_eq_true rfl) rfl d_M_init_19 ?_
  refine jr_aload_0 C d_M_init_22 ?_
  refine jr_bipush (v := nI 61) C d_M_init_23 (by decide) ?_
  refine jr_newa (a0 := (61, .inl (fun _ => 0))) C (List.mem_cons_of_mem _ ac_boolean) rfl (fun _ => rfl) (by omega) (by decide) (by show X.2.2.2.2.2.1 + 1 + 1 + 1 ≤ _; rw [hc0]; decide) (by show X.2.2.2.2.2.2 + 1200 + 600 + 61 ≤ _; rw [hs0]; decide) d_M_init_25 (fun q3 c3 C => ?_)
  refine jr_w (ws2 := [(q0, .inr (1, [.int 0, .int 0, .int 0, .ref q1, .ref q2, .null, .null, .null, .null, .null, .null, .null, .int 0])), (q1, .inl (c1, 1200, .inl (fun _ => 0))), (q2, .inl (c2, 600, .inl (fun _ => 0))), (q3, .inl (c3, 61, .inl (fun _ => 0)))]) rfl ?_
  refine jr_putF (ty := .array .boolean) (ws2 := [(q0, .inr (1, [.int 0, .int 0, .int 0, .ref q1, .ref q2, .ref q3, .null, .null, .null, .null, .null, .null, .int 0])), (q1, .inl (c1, 1200, .inl (fun _ => 0))), (q2, .inl (c2, 600, .inl (fun _ => 0))), (q3, .inl (c3, 61, .inl (fun _ => 0)))]) C hin (fun w h => List.mem_cons_of_mem _ (u_M_in w h)) t_M t_M_ok n_M (ci := 1) rfl 0 5 rfl (by decide) (List.mem_cons_of_mem _ fl_M_hits) rfl rfl (t_M_ok 5 (by decide)) rfl rfl (Nat.le_of_ble_eq_true rfl) rfl d_M_init_27 ?_
  refine jr_aload_0 C d_M_init_30 ?_
  refine jr_sipush (v := nI 600) C d_M_init_31 (by decide) ?_
  refine jr_newa (a0 := (600, .inl (fun _ => 0))) C (List.mem_cons_of_mem _ ac_boolean) rfl (fun _ => rfl) (by omega) (by decide) (by show X.2.2.2.2.2.1 + 1 + 1 + 1 + 1 ≤ _; rw [hc0]; decide) (by show X.2.2.2.2.2.2 + 1200 + 600 + 61 + 600 ≤ _; rw [hs0]; decide) d_M_init_34 (fun q4 c4 C => ?_)
  refine jr_w (ws2 := [(q0, .inr (1, [.int 0, .int 0, .int 0, .ref q1, .ref q2, .ref q3, .null, .null, .null, .null, .null, .null, .int 0])), (q1, .inl (c1, 1200, .inl (fun _ => 0))), (q2, .inl (c2, 600, .inl (fun _ => 0))), (q3, .inl (c3, 61, .inl (fun _ => 0))), (q4, .inl (c4, 600, .inl (fun _ => 0)))]) rfl ?_
  refine jr_putF (ty := .array .boolean) (ws2 := [(q0, .inr (1, [.int 0, .int 0, .int 0, .ref q1, .ref q2, .ref q3, .ref q4, .null, .null, .null, .null, .null, .int 0])), (q1, .inl (c1, 1200, .inl (fun _ => 0))), (q2, .inl (c2, 600, .inl (fun _ => 0))), (q3, .inl (c3, 61, .inl (fun _ => 0))), (q4, .inl (c4, 600, .inl (fun _ => 0)))]) C hin (fun w h => List.mem_cons_of_mem _ (u_M_in w h)) t_M t_M_ok n_M (ci := 1) rfl 0 6 rfl (by decide) (List.mem_cons_of_mem _ fl_M_chosen) rfl rfl (t_M_ok 6 (by decide)) rfl rfl (Nat.le_of_ble_eq_true rfl) rfl d_M_init_36 ?_
  refine jr_aload_0 C d_M_init_39 ?_
  refine jr_bipush (v := nI 100) C d_M_init_40 (by decide) ?_
  refine jr_newa (a0 := (100, .inl (fun _ => 0))) C (List.mem_cons_of_mem _ ac_int) rfl (fun _ => rfl) (by omega) (by decide) (by show X.2.2.2.2.2.1 + 1 + 1 + 1 + 1 + 1 ≤ _; rw [hc0]; decide) (by show X.2.2.2.2.2.2 + 1200 + 600 + 61 + 600 + 100 ≤ _; rw [hs0]; decide) d_M_init_42 (fun q5 c5 C => ?_)
  refine jr_w (ws2 := [(q0, .inr (1, [.int 0, .int 0, .int 0, .ref q1, .ref q2, .ref q3, .ref q4, .null, .null, .null, .null, .null, .int 0])), (q1, .inl (c1, 1200, .inl (fun _ => 0))), (q2, .inl (c2, 600, .inl (fun _ => 0))), (q3, .inl (c3, 61, .inl (fun _ => 0))), (q4, .inl (c4, 600, .inl (fun _ => 0))), (q5, .inl (c5, 100, .inl (fun _ => 0)))]) rfl ?_
  refine jr_putF (ty := .array .int) (ws2 := [(q0, .inr (1, [.int 0, .int 0, .int 0, .ref q1, .ref q2, .ref q3, .ref q4, .ref q5, .null, .null, .null, .null, .int 0])), (q1, .inl (c1, 1200, .inl (fun _ => 0))), (q2, .inl (c2, 600, .inl (fun _ => 0))), (q3, .inl (c3, 61, .inl (fun _ => 0))), (q4, .inl (c4, 600, .inl (fun _ => 0))), (q5, .inl (c5, 100, .inl (fun _ => 0)))]) C hin (fun w h => List.mem_cons_of_mem _ (u_M_in w h)) t_M t_M_ok n_M (ci := 1) rfl 0 7 rfl (by decide) (List.mem_cons_of_mem _ fl_M_counts) rfl rfl (t_M_ok 7 (by decide)) rfl rfl (Nat.le_of_ble_eq_true rfl) rfl d_M_init_44 ?_
  refine jr_aload_0 C d_M_init_47 ?_
  refine jr_bipush (v := nI 100) C d_M_init_48 (by decide) ?_
  refine jr_newa (a0 := (100, .inl (fun _ => 0))) C (List.mem_cons_of_mem _ ac_int) rfl (fun _ => rfl) (by omega) (by decide) (by show X.2.2.2.2.2.1 + 1 + 1 + 1 + 1 + 1 + 1 ≤ _; rw [hc0]; decide) (by show X.2.2.2.2.2.2 + 1200 + 600 + 61 + 600 + 100 + 100 ≤ _; rw [hs0]; decide) d_M_init_50 (fun q6 c6 C => ?_)
  refine jr_w (ws2 := [(q0, .inr (1, [.int 0, .int 0, .int 0, .ref q1, .ref q2, .ref q3, .ref q4, .ref q5, .null, .null, .null, .null, .int 0])), (q1, .inl (c1, 1200, .inl (fun _ => 0))), (q2, .inl (c2, 600, .inl (fun _ => 0))), (q3, .inl (c3, 61, .inl (fun _ => 0))), (q4, .inl (c4, 600, .inl (fun _ => 0))), (q5, .inl (c5, 100, .inl (fun _ => 0))), (q6, .inl (c6, 100, .inl (fun _ => 0)))]) rfl ?_
  refine jr_putF (ty := .array .int) (ws2 := [(q0, .inr (1, [.int 0, .int 0, .int 0, .ref q1, .ref q2, .ref q3, .ref q4, .ref q5, .ref q6, .null, .null, .null, .int 0])), (q1, .inl (c1, 1200, .inl (fun _ => 0))), (q2, .inl (c2, 600, .inl (fun _ => 0))), (q3, .inl (c3, 61, .inl (fun _ => 0))), (q4, .inl (c4, 600, .inl (fun _ => 0))), (q5, .inl (c5, 100, .inl (fun _ => 0))), (q6, .inl (c6, 100, .inl (fun _ => 0)))]) C hin (fun w h => List.mem_cons_of_mem _ (u_M_in w h)) t_M t_M_ok n_M (ci := 1) rfl 0 8 rfl (by decide) (List.mem_cons_of_mem _ fl_M_marks) rfl rfl (t_M_ok 8 (by decide)) rfl rfl (Nat.le_of_ble_eq_true rfl) rfl d_M_init_52 ?_
  refine jr_aload_0 C d_M_init_55 ?_
  refine jr_bipush (v := nI 6) C d_M_init_56 (by decide) ?_
  refine jr_newa (a0 := (6, .inl (fun _ => 0))) C (List.mem_cons_of_mem _ ac_boolean) rfl (fun _ => rfl) (by omega) (by decide) (by show X.2.2.2.2.2.1 + 1 + 1 + 1 + 1 + 1 + 1 + 1 ≤ _; rw [hc0]; decide) (by show X.2.2.2.2.2.2 + 1200 + 600 + 61 + 600 + 100 + 100 + 6 ≤ _; rw [hs0]; decide) d_M_init_58 (fun q7 c7 C => ?_)
  refine jr_w (ws2 := [(q0, .inr (1, [.int 0, .int 0, .int 0, .ref q1, .ref q2, .ref q3, .ref q4, .ref q5, .ref q6, .null, .null, .null, .int 0])), (q1, .inl (c1, 1200, .inl (fun _ => 0))), (q2, .inl (c2, 600, .inl (fun _ => 0))), (q3, .inl (c3, 61, .inl (fun _ => 0))), (q4, .inl (c4, 600, .inl (fun _ => 0))), (q5, .inl (c5, 100, .inl (fun _ => 0))), (q6, .inl (c6, 100, .inl (fun _ => 0))), (q7, .inl (c7, 6, .inl (fun _ => 0)))]) rfl ?_
  refine jr_putF (ty := .array .boolean) (ws2 := [(q0, .inr (1, [.int 0, .int 0, .int 0, .ref q1, .ref q2, .ref q3, .ref q4, .ref q5, .ref q6, .ref q7, .null, .null, .int 0])), (q1, .inl (c1, 1200, .inl (fun _ => 0))), (q2, .inl (c2, 600, .inl (fun _ => 0))), (q3, .inl (c3, 61, .inl (fun _ => 0))), (q4, .inl (c4, 600, .inl (fun _ => 0))), (q5, .inl (c5, 100, .inl (fun _ => 0))), (q6, .inl (c6, 100, .inl (fun _ => 0))), (q7, .inl (c7, 6, .inl (fun _ => 0)))]) C hin (fun w h => List.mem_cons_of_mem _ (u_M_in w h)) t_M t_M_ok n_M (ci := 1) rfl 0 9 rfl (by decide) (List.mem_cons_of_mem _ fl_M_any) rfl rfl (t_M_ok 9 (by decide)) rfl rfl (Nat.le_of_ble_eq_true rfl) rfl d_M_init_60 ?_
  refine jr_aload_0 C d_M_init_63 ?_
  refine jr_sipush (v := nI 366) C d_M_init_64 (by decide) ?_
  refine jr_newa (a0 := (366, .inl (fun _ => 0))) C (List.mem_cons_of_mem _ ac_boolean) rfl (fun _ => rfl) (by omega) (by decide) (by show X.2.2.2.2.2.1 + 1 + 1 + 1 + 1 + 1 + 1 + 1 + 1 ≤ _; rw [hc0]; decide) (by show X.2.2.2.2.2.2 + 1200 + 600 + 61 + 600 + 100 + 100 + 6 + 366 ≤ _; rw [hs0]; decide) d_M_init_67 (fun q8 c8 C => ?_)
  refine jr_w (ws2 := [(q0, .inr (1, [.int 0, .int 0, .int 0, .ref q1, .ref q2, .ref q3, .ref q4, .ref q5, .ref q6, .ref q7, .null, .null, .int 0])), (q1, .inl (c1, 1200, .inl (fun _ => 0))), (q2, .inl (c2, 600, .inl (fun _ => 0))), (q3, .inl (c3, 61, .inl (fun _ => 0))), (q4, .inl (c4, 600, .inl (fun _ => 0))), (q5, .inl (c5, 100, .inl (fun _ => 0))), (q6, .inl (c6, 100, .inl (fun _ => 0))), (q7, .inl (c7, 6, .inl (fun _ => 0))), (q8, .inl (c8, 366, .inl (fun _ => 0)))]) rfl ?_
  refine jr_putF (ty := .array .boolean) (ws2 := [(q0, .inr (1, [.int 0, .int 0, .int 0, .ref q1, .ref q2, .ref q3, .ref q4, .ref q5, .ref q6, .ref q7, .ref q8, .null, .int 0])), (q1, .inl (c1, 1200, .inl (fun _ => 0))), (q2, .inl (c2, 600, .inl (fun _ => 0))), (q3, .inl (c3, 61, .inl (fun _ => 0))), (q4, .inl (c4, 600, .inl (fun _ => 0))), (q5, .inl (c5, 100, .inl (fun _ => 0))), (q6, .inl (c6, 100, .inl (fun _ => 0))), (q7, .inl (c7, 6, .inl (fun _ => 0))), (q8, .inl (c8, 366, .inl (fun _ => 0)))]) C hin (fun w h => List.mem_cons_of_mem _ (u_M_in w h)) t_M t_M_ok n_M (ci := 1) rfl 0 10 rfl (by decide) (List.mem_cons_of_mem _ fl_M_one) rfl rfl (t_M_ok 10 (by decide)) rfl rfl (Nat.le_of_ble_eq_true rfl) rfl d_M_init_69 ?_
  refine jr_aload_0 C d_M_init_72 ?_
  refine jr_bipush (v := nI 61) C d_M_init_73 (by decide) ?_
  refine jr_newa (a0 := (61, .inl (fun _ => 0))) C (List.mem_cons_of_mem _ ac_boolean) rfl (fun _ => rfl) (by omega) (by decide) (by show X.2.2.2.2.2.1 + 1 + 1 + 1 + 1 + 1 + 1 + 1 + 1 + 1 ≤ _; rw [hc0]; decide) (by show X.2.2.2.2.2.2 + 1200 + 600 + 61 + 600 + 100 + 100 + 6 + 366 + 61 ≤ _; rw [hs0]; decide) d_M_init_75 (fun q9 c9 C => ?_)
  refine jr_w (ws2 := [(q0, .inr (1, [.int 0, .int 0, .int 0, .ref q1, .ref q2, .ref q3, .ref q4, .ref q5, .ref q6, .ref q7, .ref q8, .null, .int 0])), (q1, .inl (c1, 1200, .inl (fun _ => 0))), (q2, .inl (c2, 600, .inl (fun _ => 0))), (q3, .inl (c3, 61, .inl (fun _ => 0))), (q4, .inl (c4, 600, .inl (fun _ => 0))), (q5, .inl (c5, 100, .inl (fun _ => 0))), (q6, .inl (c6, 100, .inl (fun _ => 0))), (q7, .inl (c7, 6, .inl (fun _ => 0))), (q8, .inl (c8, 366, .inl (fun _ => 0))), (q9, .inl (c9, 61, .inl (fun _ => 0)))]) rfl ?_
  refine jr_putF (ty := .array .boolean) (ws2 := [(q0, .inr (1, [.int 0, .int 0, .int 0, .ref q1, .ref q2, .ref q3, .ref q4, .ref q5, .ref q6, .ref q7, .ref q8, .ref q9, .int 0])), (q1, .inl (c1, 1200, .inl (fun _ => 0))), (q2, .inl (c2, 600, .inl (fun _ => 0))), (q3, .inl (c3, 61, .inl (fun _ => 0))), (q4, .inl (c4, 600, .inl (fun _ => 0))), (q5, .inl (c5, 100, .inl (fun _ => 0))), (q6, .inl (c6, 100, .inl (fun _ => 0))), (q7, .inl (c7, 6, .inl (fun _ => 0))), (q8, .inl (c8, 366, .inl (fun _ => 0))), (q9, .inl (c9, 61, .inl (fun _ => 0)))]) C hin (fun w h => List.mem_cons_of_mem _ (u_M_in w h)) t_M t_M_ok n_M (ci := 1) rfl 0 11 rfl (by decide) (List.mem_cons_of_mem _ fl_M_left) rfl rfl (t_M_ok 11 (by decide)) rfl rfl (Nat.le_of_ble_eq_true rfl) rfl d_M_init_77 ?_
  obtain ⟨qf, eq⟩ : ∃ qf : Nat → Nat, qf = (fun i => match i with | 0 => q0 | 1 => q1 | 2 => q2 | 3 => q3 | 4 => q4 | 5 => q5 | 6 => q6 | 7 => q7 | 8 => q8 | _ => q9) := ⟨_, rfl⟩
  obtain ⟨kf, ek⟩ : ∃ kf : Nat → ClassId, kf = (fun i => match i with | 0 => c1 | 1 => c1 | 2 => c2 | 3 => c3 | 4 => c4 | 5 => c5 | 6 => c6 | 7 => c7 | 8 => c8 | _ => c9) := ⟨_, rfl⟩
  have C : fx_C (fx_up (fx_up (fx_up (fx_up (fx_up (fx_up (fx_up (fx_up (fx_up X 1 1200) 1 600) 1 61) 1 600) 1 100) 1 100) 1 6) 1 366) 1 61) l rm_M_init D cl_s (ty_M kf) b_M_init (k_M_init :: tb_l) R_M := by rw [ek]; exact C
  refine jr_w (ws2 := w_M qf kf (((fun _ => 0), (fun _ => 0), (fun _ => 0), (fun _ => 0), (fun _ => 0), (fun _ => 0), (fun _ => 0), (fun _ => 0), (fun _ => 0)), (0, 0, 0, 0))) (by rw [eq, ek]; rfl) ?_
  have e0 : qf 0 = q0 := by rw [eq]; rfl
  rw [← e0]
  refine jr_iconst (v := nI 0) C d_M_init_80 (by decide) ?_
  refine jr_istore_1 C d_M_init_81 rfl ?_
  have L := lp_up (P := fun i => ∀ b : Nat → Int32, (∀ j, j < i → b j = -1) → fx_J (fx_up (fx_up (fx_up (fx_up (fx_up (fx_up (fx_up (fx_up (fx_up X 1 1200) 1 600) 1 61) 1 600) 1 100) 1 100) 1 6) 1 366) 1 61) (w_M qf kf (((fun _ => 0), b, (fun _ => 0), (fun _ => 0), (fun _ => 0), (fun _ => 0), (fun _ => 0), (fun _ => 0), (fun _ => 0)), (0, 0, 0, 0))) 82 [some (.ref (qf 0)), some (.int (nI i))] []) 600 (fun i hi ih b hb => ?_)
  · exact L 0 (by omega) (fun _ => 0) (fun j hj => by omega)
  · refine jr_iload_1 C d_M_init_82 ?_
    refine jr_sipush (v := nI 600) C d_M_init_83 (by decide) ?_
    refine jr_N_ge (tgt := 102) C d_M_init_86 (by decide) (by omega) (by omega) (fun h => ?_) (fun h => ?_)
    · refine hR _ (qf, kf, _) _ _ rfl rfl rfl rfl (by show X.2.2.2.2.2.1 + 1 + 1 + 1 + 1 + 1 + 1 + 1 + 1 + 1 = 9; omega) (by show X.2.2.2.2.2.2 + 1200 + 600 + 61 + 600 + 100 + 100 + 6 + 366 + 61 = 3094; omega) C.2.2.2.2.2.1 d_M_init_102 ⟨e0, rfl, rfl, fun j hj => absurd hj (by show ¬ j < 0; omega), fun r f v => rfl, fun f v hf hv => hb _ (by omega), fun f v _ _ => nI_0.symm, fun r _ _ => nI_0.symm⟩
    · refine jr_aload_0 C d_M_init_89 ?_
      refine gM_broader C d_M_init_90 ?_
      refine jr_iload_1 C d_M_init_93 ?_
      refine jr_iconst (v := -1) C d_M_init_94 (by decide) ?_
      refine sM_broader C (by omega) d_M_init_95 ?_
      refine jr_incN_1 C d_M_init_96 rfl ?_
      refine jr_goto (tgt := 82) C d_M_init_99 (by decide) ?_
      refine ih h _ (fun j hj => ?_)
      by_cases e : j = i
      · rw [e]; exact pk_us
      · rw [pk_un e]; exact hb j (by omega)
