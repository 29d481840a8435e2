def AE_n : String := "java/lang/ArithmeticException"
abbrev AE_c : List String := ["java/lang/RuntimeException", "java/lang/Exception"]
theorem cl_X_107 : Cond.classLink R_X 107 AE_n ∈ tb_l := in_tb 197 (by decide +kernel) (by decide +kernel)
theorem ii_AE : Cond.initialized AE_n ∈ tb_l := in_tb 28 (by decide +kernel) (by decide +kernel)
theorem at_in : ((vx_atS R_X 111 AE_n AE_c).filter goodWord).all (fun w => decide (w ∈ lw_tbl)) = true := by decide +kernel
theorem at_ot : (Cond.classLink R_X 107 AE_n :: Cond.initialized AE_n :: vx_atS R_X 111 AE_n AE_c).all vx_ot = true := by decide +kernel
abbrev ng_l : List Cond := [.castable AE_n AE_n, .declares (Bundle.initS "java/lang/RuntimeException"), .declares (Bundle.initS "java/lang/Exception"), .declares (Bundle.initS Bundle.tN)]
theorem at_ng : ((vx_atS R_X 111 AE_n AE_c).filter (fun w => !goodWord w)).all (fun w => decide (w ∈ ng_l)) = true := by decide +kernel
/-- what a throw asks of the heap and of the tables, beside the words -/
def ex_P (sa : Nat) (A : Nat → Prop) (U : State) (H : Heap) : Prop :=
  vk_R R_X 109 "no hit is left" sa U ∧ vx_Zq Bundle.tN "UNASSIGNED_STACK" Bundle.steD A U H ∧ vx_Zq Bundle.tN "SUPPRESSED_SENTINEL" Bundle.listD A U H ∧ va_Nw (.castable AE_n AE_n) U ∧ va_Nw (.declares (Bundle.initS "java/lang/RuntimeException")) U ∧ va_Nw (.declares (Bundle.initS "java/lang/Exception")) U ∧ va_Nw (.declares (Bundle.initS Bundle.tN)) U
theorem ex_P.warm {sa : Nat} {A : Nat → Prop} {s U : State} {H : Heap} (hW : s.WarmedH U.vm) (h : ex_P sa A s H) : ex_P sa A U H := by
  obtain ⟨h1, h2, h3, h4, h5, h6, h7⟩ := h
  exact ⟨vk_R.warm hW h1, h2.moved hW.alike, h3.moved hW.alike, va_Nw.warmC hW h4, va_Nw.warmD hW h5, va_Nw.warmD hW h6, va_Nw.warmD hW h7⟩
theorem ex_P.same {sa : Nat} {A : Nat → Prop} {s U : State} {H : Heap} (hv : s.vm = U.vm) (h : ex_P sa A s H) : ex_P sa A U H := by
  obtain ⟨h1, h2, h3, h4, h5, h6, h7⟩ := h
  have ha : s.vm.Alike U.vm := by rw [hv]; exact Vm.Alike.refl _
  exact ⟨vk_R.same hv.symm h1, h2.moved ha, h3.moved ha, va_Nw.same rfl hv h4, va_Nw.same rfl hv h5, va_Nw.same rfl hv h6, va_Nw.same rfl hv h7⟩
theorem ex_P.kept {sa : Nat} {A : Nat → Prop} {s : State} {H H1 : Heap} (hq : ∀ a : Nat, a < H.size → ¬ A a → H1[a]? = H[a]?) (h : ex_P sa A s H) : ex_P sa A s H1 := ⟨h.1, h.2.1.kept hq, h.2.2.1.kept hq, h.2.2.2⟩
theorem ex_P.narrow {sa : Nat} {A B : Nat → Prop} {s : State} {H : Heap} (hAB : ∀ q, B q → A q) (h : ex_P sa A s H) : ex_P sa B s H := ⟨h.1, h.2.1.narrow hAB, h.2.2.1.narrow hAB, h.2.2.2⟩
abbrev fx_PreX (D : va_G) (cl : List vw_C) (tys : List (ClassId × FieldType)) (ws : va_W) (As : List Value) (sz sa : Nat) : Array Value → State → Prop := va_Pc As (fun U => (U.heap.size = sz ∧ va_P D cl ws U.heap ∧ va_K D cl tys U ∧ va_D (fun _ => True) ws) ∧ ex_P sa (va_A ws sz) U U.heap)
theorem fx_blindX {D : va_G} {cl : List vw_C} {tys : List (ClassId × FieldType)} {ws : va_W} {As : List Value} {sz sa : Nat} : FrameBlind (fx_PreX D cl tys ws As sz sa) := fun a U g mk q => by
  obtain ⟨q0, ⟨q1, qP, qK, qD⟩, qE⟩ := q
  exact ⟨q0, ⟨q1, qP, va_K.moved (u := U) (U := U.calling g mk a) (Vm.Alike.refl U.vm) qK, qD⟩, ex_P.same (s := U) (U := U.calling g mk a) rfl qE⟩
def fx_MX (l : Launch) (D : va_G) (cl : List vw_C) (tys : List (ClassId × FieldType)) {S : Type} (w : S → va_W) (y : MethodName) (ts : List Cond) (rm : Room) (As : List Value) (σ : S) (sa : Nat) (post : Int64 → S → Prop) (px : S → Prop) (mc ms : Nat) : Prop :=
  ∀ sz : Nat, vx_Met l y ts rm (fx_PreX D cl tys (w σ) As sz sa) (va_Ql post (fun u t => fx_At D cl tys (va_A (w σ) sz) (w u) t) (va_A (w σ) sz)) (vx_X px (fun E u t => E = AE_n ∧ fx_At D cl tys (va_A (w σ) sz) (w u) t) (va_A (w σ) sz)) mc ms (va_A (w σ) sz)
abbrev rm_X_share : Room := { frames := 6, cells := 1, slots := 6, locals := 82 }
theorem fx_enterX {l : Launch} {D : va_G} {tys : List (ClassId × FieldType)} {S : Type} {w : S → va_W} {As : List Value} {σ : S} {sa : Nat} {post : Int64 → S → Prop} {px : S → Prop} (hlt : l.stackTraces = false) (pl : List (Option Value)) (hpl : fx_fl 0 pl = lv_args 0 As) (hlen : pl.length ≤ 9) (hln : (lg_sl As).length ≤ 9)
    (body : ∀ X : fx_M, fx_C X l rm_X_share D cl_s tys b_X_share (k_X_share :: tb_l) R_X → (∀ (r : Int64) (u : S) (pc : Nat) (pl2 : List (Option Value)), decode b_X_share pc = .ok (.lreturn, 1) → post r u → fx_J X (w u) pc pl2 [.long r]) → (∀ (u : S) (pc : Nat) (pl2 : List (Option Value)), decode b_X_share pc = .ok (.new 107, 3) → decode b_X_share (pc + 3) = .ok (.dup, 1) → decode b_X_share (pc + 4) = .ok (.ldc 109, 2) → decode b_X_share (pc + 6) = .ok (.invokespecial 111, 3) → decode b_X_share (pc + 9) = .ok (.athrow, 1) → px u → fx_J X (w u) pc pl2 []) → fx_J X (w σ) 0 pl []) : fx_MX l D cl_s tys w y_X_share (k_X_share :: tb_l) rm_X_share As σ sa post px 1 6 := by
  intro sz
  refine vx_ofW (cc := b_X_share) (maxL := 9) (ret := some .long) (by decide +kernel) rfl ?_
  intro p e s m args below meth c s₁ B hml htab hv
  obtain ⟨rfl, ⟨hsz, hP, hK, hD0⟩, hE⟩ := hv
  have hx := B.exec
  have hb := B.bytes
  have hr := B.returns
  have hts := atoms_spec (ws := k_X_share :: tb_l) B.pre
  have hown : s.vm.findClass R_X = some m.cls := findClass_of_methodNamed B.named
  have hlocks : meth.locks = false := B.notSynchronized
  subst hsz
  have hD := hD0.self (sz := s.heap.size)
  have hl := lv_entry As (n := 9) hln
  rw [lg_entry_eq]
  refine body ((p, l, e, rm_X_share), (s, m, As.toArray, below), (meth, c, vx_MQ below (va_Ql post (fun u t => fx_At D cl_s tys (va_A (w σ) s.heap.size) (w u) t) (va_A (w σ) s.heap.size)) (vx_X px (fun E u t => E = AE_n ∧ fx_At D cl_s tys (va_A (w σ) s.heap.size) (w u) t) (va_A (w σ) s.heap.size)) As.toArray s 1 6 (va_A (w σ) s.heap.size)), (D, cl_s, va_A (w σ) s.heap.size), (9, 0, 0)) ⟨hx, hb, hml, hown, hts, hK, fun q h => Or.inr h, rfl, rfl, rfl, rfl, Nat.zero_le _, Nat.zero_le _⟩ ?_ ?_ s.heap [] _ hP hD va_S.rf ⟨hlen, by rw [hpl]; exact hl⟩
  · intro r u pc pl2 hd hp H locs ls hP2 hD2 hS2 hl2
    refine vx_ret (W.widen (k := 1) (n := 6) (Nat.zero_le 1) (Nat.zero_le 6) ?_)
    exact W.lret (v := r) hx hb hr (fun t ht hW => ⟨⟨r, u, rfl, hp, by rw [ht]; exact hP2, va_K.moved hW.alike hK, hD2⟩, hS2.F ht⟩) hS2.2.2 hd hlocks
  · intro u pc pl2 d0 d3 d4 d6 d9 hp H locs ls hP2 hD2 hS2 hl2
    obtain ⟨e1, e2, e3, e4, e5, e6, e7⟩ := hE
    have hat : ∀ w ∈ vx_atS R_X 111 AE_n AE_c, w.before As.toArray s = true := by
      refine vx_hat (B := ng_l) (fun w hw => ?_) (fun w hw => ?_) ?_
      · have h1 := List.all_eq_true.mp at_in w hw
        exact hts w (List.mem_cons_of_mem _ (List.mem_filter.mpr ⟨of_decide_eq_true h1, (List.mem_filter.mp hw).2⟩))
      · exact of_decide_eq_true (List.all_eq_true.mp at_ng w hw)
      · exact vx_c (va_Nw.use rfl e4) (vx_c (va_Nw.use rfl e5) (vx_c (va_Nw.use rfl e6) (vx_c (va_Nw.use rfl e7) vx_n)))
    refine vx_throwS (mc := 1) (ms := 6) (sa := sa) (text := "no hit is left") (A := va_A (w σ) s.heap.size) (own := R_X) (cls := AE_n) (names := AE_c) (ik := 107) (is := 109) (ic := 111) hx hb hlt hown (by decide +kernel) (by decide +kernel) (hts _ (List.mem_cons_of_mem _ cl_X_107)) (hts _ (List.mem_cons_of_mem _ ii_AE)) e1 hat (fun w hw => List.all_eq_true.mp at_ot w hw) e2 e3 hS2 (hl2.2.1.trans hml.symm) d0 d3 d4 d6 d9 (fun x hx => (htab x hx).elim) (Nat.le_of_ble_eq_true rfl) (Nat.le_of_ble_eq_true rfl) (Nat.le_of_ble_eq_true rfl) (Nat.le_of_ble_eq_true rfl) hlocks (fun t hal hsz hkp => ?_) hS2.2.2 (Nat.le_refl 1) (Nat.le_refl 6)
    exact ⟨u, hp, ⟨rfl, hP2.kept (fun k q hq => hkp q.1 ((hP2 k q hq).lt)), va_K.moved hal hK, hD2⟩, Nat.le_trans hS2.1 hsz, fun q h1 h2 => (hkp q (Nat.lt_of_lt_of_le h1 hS2.1)).trans (hS2.2.1 q h1 h2)⟩
theorem cX_share (l : Launch) (D : va_G) (q : Nat → Nat) (k : Nat → ClassId) (σ : sx_T) (a : ab_T) (hlt : l.stackTraces = false) (hx : rx_r a σ) (y z s : Int32) (sa : Nat) : fx_MX l D cl_s (ty_X k) (w_X q k) y_X_share (k_X_share :: tb_l) rm_X_share [.ref (q 0), .int y, .int z, .int s] σ sa (fun r u => sp_share a y z s = some r ∧ rx_r a u) (fun u => sp_share a y z s = none ∧ rx_r a u) 1 6 := by
  refine fx_enterX hlt [some (.ref (q 0)), some (.int y), some (.int z), some (.int s), none, none, none, none, none] rfl (Nat.le_of_ble_eq_true rfl) (Nat.le_of_ble_eq_true rfl) (fun X C hR hT => ?_)
  unfold sp_share at hR hT
  refine jr_iload_1 C d_X_share_0 ?_
  refine qX_X_isFacet C (cX_isFacet l D (ty_X k) (w_X q k) σ y) ⟨Nat.le_of_ble_eq_true rfl, Nat.le_of_ble_eq_true rfl⟩ (Nat.le_of_ble_eq_true rfl) d_X_share_1 (fx_p (fun z1 h1 => ?_))
  rcases h1 with ⟨rfl, f, hf, rfl⟩ | ⟨rfl, h1⟩
  · rw [ix_in hf (by omega)] at hR hT
    refine jr_if_eq (tgt := 14) C d_X_share_4 (by decide) (fun e1 => ?_) (fun e1 => ?_)
    · exact absurd e1 (by decide)
    · refine jr_iload_2 C d_X_share_7 ?_
      refine qX_X_isValue C (cX_isValue l D (ty_X k) (w_X q k) σ z) ⟨Nat.le_of_ble_eq_true rfl, Nat.le_of_ble_eq_true rfl⟩ (Nat.le_of_ble_eq_true rfl) d_X_share_8 (fx_p (fun z2 h2 => ?_))
      rcases h2 with ⟨rfl, v, hv, rfl⟩ | ⟨rfl, h2⟩
      · rw [ix_in hv (by omega)] at hR hT
        dsimp only at hR hT
        have hle := sp_cm a f v
        have hle2 : sp_many a ≤ 64 := ct_le _ 64
        refine jr_if_ne (tgt := 18) C d_X_share_11 (by decide) (fun e2 => ?_) (fun e2 => ?_)
        · refine jr_aload_0 C d_X_share_18 ?_
          refine qX_X_hitsLeft C (cX_hitsLeft l D q k σ a hx) rfl ⟨Nat.le_of_ble_eq_true rfl, Nat.le_of_ble_eq_true rfl⟩ (Nat.le_of_ble_eq_true rfl) d_X_share_19 (fx_p (fun t ht => ?_))
          refine jr_lstore_4 C d_X_share_22 rfl ?_
          refine jr_lload_4 C d_X_share_24 ?_
          refine qX_JL_bitCount C (cJ_bitCount l D (ty_X k) (w_X q k) σ t) ⟨Nat.le_of_ble_eq_true rfl, Nat.le_of_ble_eq_true rfl⟩ (Nat.le_of_ble_eq_true rfl) d_X_share_26 (fx_p (fun c hc => ?_))
          have hc2 : c = nI (sp_many a) := by rw [hc]; exact congrArg nI (ct_congr ht)
          rw [hc2]
          refine jr_istore_6 C d_X_share_29 rfl ?_
          refine jr_iload_6 C d_X_share_31 ?_
          refine jr_if_ne (tgt := 46) C d_X_share_33 (by decide) (fun e3 => ?_) (fun e3 => ?_)
          · have h0 : 0 < sp_many a := by
              rcases Nat.eq_zero_or_pos (sp_many a) with e | e
              · rw [e] at e3; exact absurd nI_0 e3
              · exact e
            rw [if_neg (by omega)] at hR
            refine jr_lload_4 C d_X_share_46 ?_
            refine jr_aload_0 C d_X_share_48 ?_
            refine gX_havers C d_X_share_49 ?_
            refine jr_iload_1 C d_X_share_52 ?_
            refine jr_iload_2 C d_X_share_53 ?_
            refine kX_cell C ⟨Nat.le_of_ble_eq_true rfl, Nat.le_of_ble_eq_true rfl⟩ (Nat.le_of_ble_eq_true rfl) d_X_share_54 ?_
            refine aX_havers C (by omega) d_X_share_57 ?_
            refine jr_land C d_X_share_58 ?_
            refine qX_JL_bitCount C (cJ_bitCount l D (ty_X k) (w_X q k) σ (t &&& x_hav σ (f * 100 + v))) ⟨Nat.le_of_ble_eq_true rfl, Nat.le_of_ble_eq_true rfl⟩ (Nat.le_of_ble_eq_true rfl) d_X_share_59 (fx_p (fun d hd => ?_))
            have hd2 : d = nI (sp_cnt a f v) := by
              rw [hd]
              refine congrArg nI (ct_congr (fun r hr => ?_))
              rw [tb_and, ht r hr, hx.2.2.2.1 f v r hf hv hr]
              apply bl_eq
              rw [Bool.and_eq_true, bx_iff, bx_iff, bx_iff]
            rw [hd2]
            refine jr_istore_7 C d_X_share_62 rfl ?_
            refine jr_iload_7 C d_X_share_64 ?_
            refine jr_iload_6 C d_X_share_66 ?_
            refine qX_X_commonDivisor C (cX_commonDivisor l D (ty_X k) (w_X q k) σ (sp_cnt a f v) (sp_many a) (by omega) (by omega) h0) ⟨Nat.le_of_ble_eq_true rfl, Nat.le_of_ble_eq_true rfl⟩ (Nat.le_of_ble_eq_true rfl) d_X_share_68 (fx_p (fun g hg => ?_))
            rw [hg]
            have hg0 : 0 < Nat.gcd (sp_cnt a f v) (sp_many a) := Nat.gcd_pos_of_pos_right _ h0
            have hg1 : Nat.gcd (sp_cnt a f v) (sp_many a) ≤ sp_many a := Nat.le_of_dvd h0 (Nat.gcd_dvd_right _ _)
            refine jr_istore_8 C d_X_share_71 rfl ?_
            refine jr_iload_3 C d_X_share_73 ?_
            refine jr_if_ne (tgt := 86) C d_X_share_74 (by decide) (fun e4 => ?_) (fun e4 => ?_)
            · refine jr_iload_6 C d_X_share_86 ?_
              refine jr_iload_8 C d_X_share_88 ?_
              refine jr_idivN C d_X_share_90 (by omega) (by omega) (by omega) ?_
              refine jr_i2l C d_X_share_91 (nI_l (by have := Nat.div_le_self (sp_many a) (Nat.gcd (sp_cnt a f v) (sp_many a)); omega)) ?_
              exact hR _ _ _ _ d_X_share_92 ⟨by rw [if_neg e4], hx⟩
            · refine jr_iload_7 C d_X_share_77 ?_
              refine jr_iload_8 C d_X_share_79 ?_
              refine jr_idivN C d_X_share_81 (by omega) (by omega) (by omega) ?_
              refine jr_i2l C d_X_share_82 (nI_l (by have := Nat.div_le_self (sp_cnt a f v) (Nat.gcd (sp_cnt a f v) (sp_many a)); omega)) ?_
              refine jr_goto (tgt := 92) C d_X_share_83 (by decide) ?_
              exact hR _ _ _ _ d_X_share_92 ⟨by rw [if_pos e4], hx⟩
          · have h0 : sp_many a = 0 := (nI_eq (by omega) (by omega)).mp (e3.trans nI_0.symm)
            rw [if_pos h0] at hT
            exact hT _ _ _ d_X_share_36 d_X_share_39 d_X_share_40 d_X_share_42 d_X_share_45 ⟨rfl, hx⟩
        · exact absurd e2 (by decide)
      · rw [ix_no (by omega) h2] at hR
        refine jr_if_ne (tgt := 18) C d_X_share_11 (by decide) (fun e2 => ?_) (fun e2 => ?_)
        · exact absurd nI_0 e2
        · refine jr_ldc2 C d_X_share_14 (List.mem_cons_of_mem _ cl_X_73) ?_
          exact hR _ _ _ _ d_X_share_17 ⟨rfl, hx⟩
  · rw [ix_no (by omega) h1] at hR
    refine jr_if_eq (tgt := 14) C d_X_share_4 (by decide) (fun e1 => ?_) (fun e1 => ?_)
    · refine jr_ldc2 C d_X_share_14 (List.mem_cons_of_mem _ cl_X_73) ?_
      exact hR _ _ _ _ d_X_share_17 ⟨rfl, hx⟩
    · exact absurd nI_0 e1
