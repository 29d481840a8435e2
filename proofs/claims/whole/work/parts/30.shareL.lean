abbrev kw_L : Cond := .codeWith y_L_share b_L_share 6 (some .int) [(0, 11, 14, 13)]
theorem ci_L_share : kw_L ∈ tb_l := in_tb 191 (by decide +kernel) (by decide +kernel)
theorem cl_L_13 : Cond.classLink R_L 13 AE_n ∈ tb_l := in_tb 192 (by decide +kernel) (by decide +kernel)
def w_S (q : Nat → Nat) (k : Nat → ClassId) (qo : Nat) (co : ClassId) (u : sx_T × (Nat → Int64)) : va_W := w_X q k u.1 ++ [(qo, .inl (co, 1, .inr (.inl u.2)))]
abbrev ty_S (k : Nat → ClassId) (co : ClassId) : List (ClassId × FieldType) := [(k 1, .long), (k 2, .long), (k 3, .int), (k 4, .boolean), (k 5, .int), (co, .long)]
abbrev rm_L_share : Room := { frames := 7, cells := 1, slots := 6, locals := 110 }
def fx_MS (l : Launch) (D : va_G) (q : Nat → Nat) (k : Nat → ClassId) (qo : Nat) (co : ClassId) (u0 : sx_T × (Nat → Int64)) (As : List Value) (sa : Nat) (post : Int32 → sx_T × (Nat → Int64) → Prop) : Prop :=
  ∀ sz : Nat, Met l y_L_share (kw_L :: tb_l) rm_L_share (fx_PreX D cl_s (ty_S k co) (w_S q k qo co u0) As sz sa) (va_Qi post (fun u t => fx_At D cl_s (ty_S k co) (va_A (w_S q k qo co u0) sz) (w_S q k qo co u) t) (va_A (w_S q k qo co u0) sz)) 1 6 (va_A (w_S q k qo co u0) sz)
set_option maxHeartbeats 4000000 in
set_option maxRecDepth 100000 in
theorem cL_share (l : Launch) (D : va_G) (q : Nat → Nat) (k : Nat → ClassId) (qo : Nat) (co : ClassId) (σ : sx_T) (f : Nat → Int64) (a : ab_T) (hlt : l.stackTraces = false) (hx0 : rx_r a σ) (y z sd : Int32) (sa : Nat) : fx_MS l D q k qo co (σ, f) [.ref (q 0), .int y, .int z, .int sd, .ref qo] sa (fun r u => rx_r a u.1 ∧ ((r = nI 0 ∧ sp_share a y z sd = some (u.2 0)) ∨ (r = nI 1 ∧ sp_share a y z sd = none))) := by
  intro sz
  refine va_MetW (cc := b_L_share) (maxL := 6) (ret := some .int) (by decide +kernel) rfl ?_
  intro p e s m args below meth c s₁ B hml hv
  obtain ⟨rfl, ⟨hsz, hP, hK, hD0⟩, hE⟩ := hv
  have hx := B.exec
  have hb := B.bytes
  have hr := B.returns
  have hts := atoms_spec (ws := kw_L :: tb_l) B.pre
  have hown : s.vm.findClass R_L = some m.cls := findClass_of_methodNamed B.named
  have hlocks : meth.locks = false := B.notSynchronized
  have htab : c.exceptionTable.toList = [] ++ (⟨0, 11, 14, 13⟩ : ExceptionTableEntry) :: [] := vx_table (x := y_L_share) B (hts kw_L List.mem_cons_self)
  subst hsz
  have hD := hD0.self (sz := s.heap.size)
  have hl := lv_entry [.ref (q 0), .int y, .int z, .int sd, .ref qo] (n := 6) (Nat.le_of_ble_eq_true rfl)
  rw [lg_entry_eq]
  obtain ⟨A, hAe⟩ : ∃ A, A = va_A (w_S q k qo co (σ, f)) s.heap.size := ⟨_, rfl⟩
  rw [← hAe] at hD ⊢
  have hA : ∀ q, s.heap.size ≤ q → A q := fun q h => by rw [hAe]; exact Or.inr h
  rw [← hAe] at hE
  obtain ⟨X, eX⟩ : ∃ X : fx_M, X = ((p, l, e, rm_L_share), (s, m, #[.ref (q 0), .int y, .int z, .int sd, .ref qo], below), (meth, c, MQ below (va_Qi (fun r u => rx_r a u.1 ∧ ((r = nI 0 ∧ sp_share a y z sd = some (u.2 0)) ∨ (r = nI 1 ∧ sp_share a y z sd = none))) (fun u t => fx_At D cl_s (ty_S k co) A (w_S q k qo co u) t) A) #[.ref (q 0), .int y, .int z, .int sd, .ref qo] s 1 6 A), (D, cl_s, A), (6, 0, 0)) := ⟨_, rfl⟩
  have C : fx_C X l rm_L_share D cl_s (ty_S k co) b_L_share (kw_L :: tb_l) R_L := by
    rw [eX]
    exact ⟨hx, hb, hml, hown, hts, hK, hA, rfl, rfl, rfl, rfl, Nat.zero_le _, Nat.zero_le _⟩
  have C0 := C
  have start : fx_J X (w_S q k qo co (σ, f)) 0 [some (.ref (q 0)), some (.int y), some (.int z), some (.int sd), some (.ref qo), none] [] := by
    refine jr_aload_4 C d_L_share_0 ?_
    refine jr_iconst (v := nI 0) C d_L_share_2 (by decide) ?_
    refine jr_aload_0 C d_L_share_3 ?_
    refine jr_iload_1 C d_L_share_4 ?_
    refine jr_iload_2 C d_L_share_5 ?_
    refine jr_iload_3 C d_L_share_6 ?_
    -- the ends
    have C : fx_C (fx_up X 1 6) l rm_L_share D cl_s (ty_S k co) b_L_share (kw_L :: tb_l) R_L := by
      rw [eX]
      exact ⟨hx, hb, hml, hown, hts, hK, hA, rfl, rfl, rfl, rfl, Nat.le_refl _, Nat.le_refl _⟩
    have hR : ∀ (r : Int32) (u : sx_T × (Nat → Int64)) (pc : Nat) (pl2 : List (Option Value)), decode b_L_share pc = .ok (.ireturn, 1) → narrow .int (.int r) = .int r → (rx_r a u.1 ∧ ((r = nI 0 ∧ sp_share a y z sd = some (u.2 0)) ∨ (r = nI 1 ∧ sp_share a y z sd = none))) → fx_J (fx_up X 1 6) (w_S q k qo co u) pc pl2 [.int r] := by
      rw [eX]
      intro r u pc pl2 hd hn hp H locs ls hP2 hD2 hS2 hl2
      exact W.iret (v := r) hx hb hr (fun t ht hW => ⟨⟨r, u, rfl, hp, by rw [ht]; exact hP2, va_K.moved hW.alike hK, hD2⟩, hS2.F ht⟩) hS2.2.2 hd hlocks
    have go10 : ∀ (u : sx_T) (r : Int64), sp_share a y z sd = some r ∧ rx_r a u → fx_J (fx_up X 1 6) (w_S q k qo co (u, f)) 10 [some (.ref (q 0)), some (.int y), some (.int z), some (.int sd), some (.ref qo), none] [.long r, .int (nI 0), .ref qo] := by
      intro u r h
      refine jr_last (ws2 := w_S q k qo co (u, vp_updL f 0 r)) C 6 5 rfl rfl (by decide) (by decide) rfl d_L_share_10 ?_
      refine jr_goto (tgt := 18) C d_L_share_11 (by decide) ?_
      refine jr_iconst (v := nI 0) C d_L_share_18 (by decide) ?_
      exact hR _ _ _ _ d_L_share_19 rfl ⟨h.2, Or.inl ⟨rfl, by rw [h.1]; show some r = some (vp_updL f 0 r 0); rw [pk_uLs]⟩⟩
    have go14 : ∀ (u : sx_T) (q9 : Nat), sp_share a y z sd = none ∧ rx_r a u → fx_J (fx_up X 1 6) (w_S q k qo co (u, f)) 14 [some (.ref (q 0)), some (.int y), some (.int z), some (.int sd), some (.ref qo), none] [.ref q9] := by
      intro u q9 h
      refine jr_astore_5 C d_L_share_14 rfl ?_
      refine jr_iconst (v := nI 1) C d_L_share_16 (by decide) ?_
      exact hR _ _ _ _ d_L_share_17 rfl ⟨h.2, Or.inr ⟨rfl, h.1⟩⟩
    rw [eX] at go10 go14 ⊢
    intro H locs ls hP hD hS hl
    have hPc := hP.sub (ws' := w_X q k σ) [0, 1, 2, 3, 4, 5] rfl
    have hDc := hD.sub (ws' := w_X q k σ) [0, 1, 2, 3, 4, 5] (by decide) rfl
    have hKc := hK.sub (tys' := ty_X k) [0, 1, 2, 3, 4] rfl
    have hFc := va_free (wc := w_X q k σ) hD hS hA [0, 1, 2, 3, 4, 5] rfl
    have hEc : ex_P sa (va_A (w_X q k σ) H.size) s H := (hE.kept (fun a h1 h2 => hS.2.1 a h1 h2)).narrow hFc
    have hcast := hE.2.2.2.1
    refine vx_calll (vx_runV (As := [.int y, .int z, .int sd]) (rest := [.int (nI 0), .ref qo]) ⟨hx, hb, hml, hown, hts⟩ (cX_share l D q k σ a hlt hx0 y z sd sa H.size) (cwV 3 hts (gd_V ci_X_share ml_L_X_share im_X_share se_X_share ii_X) rfl rfl rfl (by decide +kernel) ⟨Nat.le_of_ble_eq_true rfl, Nat.le_of_ble_eq_true rfl⟩) ⟨fx_blindX, va_recv hKc hPc (ci := 0) (q0 := 0) rfl rfl, fun U hU hW => ⟨rfl, ⟨by rw [hU], by rw [hU]; exact hPc, va_K.moved hW.alike hKc, hDc.weaken (fun _ _ _ _ => trivial)⟩, by rw [hU]; exact hEc.warm hW⟩⟩ rfl rfl hl.2.1 rfl (lv_room (Nat.le_of_ble_eq_true rfl)) d_L_share_7 ⟨Nat.le_of_ble_eq_true rfl, Nat.le_of_ble_eq_true rfl⟩) hS (fun q _ h => hFc q h) hFc (fun q _ h => hFc q h) (fun E ce q9 u t H1 locs1 ht hvm hpx hBX hz1 hk1 hS1 hcell hcv hcl => ?_) (fun r u t H1 locs1 ht hvm hw hB hz1 hk1 hS1 => ?_)
    · obtain ⟨rfl, hP1, hK1, hD1⟩ := hBX
      rw [ht] at hP1
      obtain ⟨hP2, hD2⟩ := va_join (wr := [(qo, .inl (co, 1, .inr (.inl f)))]) (w1 := w_X q k u) hP hD [0, 1, 2, 3, 4, 5] [6] rfl rfl (by decide) (by decide) hk1 hFc hP1 hD1
      refine vx_catch hown [] ⟨0, 11, 14, 13⟩ [] htab (fun z hz => by cases hz) (by decide) (by decide) (hts _ (List.mem_cons_of_mem _ cl_L_13)) (va_Nw.use rfl hcast) hcell hcv hcl ?_
      exact go14 u q9 hpx H1 locs1 ls (hP2.sub [1, 2, 3, 4, 5, 6, 0] rfl) (hD2.sub [1, 2, 3, 4, 5, 6, 0] (by decide) rfl) hS1 hl
    · obtain ⟨hP1, hK1, hD1⟩ := hB
      rw [ht] at hP1
      obtain ⟨hP2, hD2⟩ := va_join (wr := [(qo, .inl (co, 1, .inr (.inl f)))]) (w1 := w_X q k u) hP hD [0, 1, 2, 3, 4, 5] [6] rfl rfl (by decide) (by decide) hk1 hFc hP1 hD1
      exact go10 u r hw H1 locs1 ls (hP2.sub [1, 2, 3, 4, 5, 6, 0] rfl) (hD2.sub [1, 2, 3, 4, 5, 6, 0] (by decide) rfl) hS1 hl
  rw [eX] at start
  exact start s.heap [] _ hP hD va_S.rf ⟨Nat.le_of_ble_eq_true rfl, hl⟩
