theorem cl_L_8 : Cond.classLink R_L 8 R_X ∈ tb_l := in_tb 29 (by decide +kernel) (by decide +kernel)
theorem cl_L_16 : Cond.classLink R_L 16 R_M ∈ tb_l := in_tb 266 (by decide +kernel) (by decide +kernel)
theorem it_X : Cond.instantiable R_X 8 ∈ tb_l := in_tb 30 (by decide +kernel) (by decide +kernel)
theorem it_M : Cond.instantiable R_M 13 ∈ tb_l := in_tb 267 (by decide +kernel) (by decide +kernel)
theorem ii_Th : Cond.initialized Bundle.tN ∈ lw_tbl := by decide +kernel
theorem ls_U : Cond.laysStatic Bundle.tN "UNASSIGNED_STACK" Bundle.steD ∈ lw_tbl := List.mem_of_getElem? (i := 224) (by decide +kernel)
theorem ls_N : Cond.laysStatic Bundle.tN "SUPPRESSED_SENTINEL" Bundle.listD ∈ lw_tbl := List.mem_of_getElem? (i := 226) (by decide +kernel)
theorem sr_X : Cond.stringRef R_X 109 "no hit is left" ∈ lw_tbl := List.mem_of_getElem? (i := 236) (by decide +kernel)
theorem ca_AE : Cond.castable AE_n AE_n ∈ lw_tbl := List.mem_of_getElem? (i := 199) (by decide +kernel)
theorem dc_R : Cond.declares (Bundle.initS "java/lang/RuntimeException") ∈ lw_tbl := List.mem_of_getElem? (i := 201) (by decide +kernel)
theorem dc_E : Cond.declares (Bundle.initS "java/lang/Exception") ∈ lw_tbl := List.mem_of_getElem? (i := 203) (by decide +kernel)
theorem dc_T : Cond.declares (Bundle.initS Bundle.tN) ∈ lw_tbl := List.mem_of_getElem? (i := 205) (by decide +kernel)
theorem ex_start {s : State} {b : Nat} (hts : ∀ w ∈ lw_tbl, w.before #[Value.ref b] s = true) (hgv : (Jvm.Cond.and given_1 narrow_1).before #[Value.ref b] s = true) : ∃ sa, ex_P sa (fun q => s.heap.size ≤ q) s s.heap := by
  have hs := flat_of_before _ hgv
  have h1 := hts _ sr_X
  obtain ⟨cur, hcur⟩ : ∃ cur, s.vm.findClass R_X = some cur := by
    have h2 := h1
    simp only [Cond.before, Cond.holds, Cond.value] at h2
    cases hc : s.vm.findClass R_X with
    | none => simp [hc] at h2
    | some cur => exact ⟨cur, rfl⟩
  obtain ⟨-, -, -, sa, -, -, -, -, -, hev⟩ := Cond.stringRef_spec hcur h1
  have hA : ∀ a : Nat, a < s.heap.size → ¬ s.heap.size ≤ a := fun a h => Nat.not_le.mpr h
  exact ⟨sa, vk_R.of h1 hev, vx_Zqof (hts _ ls_U) (hts _ ii_Th) (hs _ (by decide +kernel)) hA, vx_Zqof (hts _ ls_N) (hts _ ii_Th) (hs _ (by decide +kernel)) hA, va_Nw.of rfl (hts _ ca_AE), va_Nw.of rfl (hts _ dc_R), va_Nw.of rfl (hts _ dc_E), va_Nw.of rfl (hts _ dc_T)⟩
set_option maxHeartbeats 4000000 in
set_option maxRecDepth 100000 in
theorem whole_start {p : Program} {e : Env} {s : State} {m : MethodId} {below : List Frame} {meth : Method} {c : Code} (l : Launch) (hlt : l.stackTraces = false) {b L : Nat} {xs : Nat → Int32} (hL : L ≤ 2560) (C0 : lw_At p s m meth c b L xs) : W p l e room_1 s m #[Value.ref b] below meth c s.heap [] 0 0 (lw_Z below #[Value.ref b] s) (entryFrame m ([Value.ref b] : List Value).toArray 8) := by
  obtain ⟨hxe, hb, hr, hml, hown, hts, hX, hbl, hlocks, hgv⟩ := id C0
  obtain ⟨sa, hE⟩ := ex_start hts hgv
  have htb : ∀ w ∈ tb_l, w.before #[Value.ref b] s = true := fun w h => hts w (tb_ok h)
  obtain ⟨c0, iS0, hKn0⟩ := u_known (C := R_X) (T := T_X) (N := 8) (n := 8) htb u_X_in (htb _ it_X)
  obtain ⟨c1, iS1, hKn1⟩ := u_known (C := R_M) (T := T_M) (N := 13) (n := 13) htb u_M_in (htb _ it_M)
  obtain ⟨dC, dI, hKc⟩ : ∃ (dC : Nat → ClassId) (dI : Nat → Nat → Nat), ∀ (k : Nat) (q : vw_C), cl_s[k]? = some q → u_Kn s q.1 q.2.1 q.2.2 (dC k) (dI k) := by
    refine ⟨fun k => if k = 0 then c0 else c1, fun k => if k = 0 then iS0 else iS1, ?_⟩
    intro k q hq
    match k, hq with
    | 0, hq => cases hq; exact hKn0
    | 1, hq => cases hq; exact hKn1
    | k + 2, hq => simp [cl_s] at hq
  have hK : va_K (dC, dI) cl_s [] s := ⟨hKc, fun k q h => by simp at h⟩
  have hP : va_P (dC, dI) cl_s [] s.heap := fun k q h => by simp at h
  have hD : va_D (fun q : Nat => s.heap.size ≤ q) [] := ⟨fun i j p q h => by simp at h, fun k q h => by simp at h⟩
  have hl := lv_entry ([.ref b]) (n := 8) (Nat.le_of_ble_eq_true rfl)
  rw [lg_entry_eq]
  have C : fx_C (xl_M p l e s m b below meth c (dC, dI) 0 0) l room_1 (dC, dI) cl_s [] code (k_X_init :: tb_l) R_L := ⟨hxe, hb, hml, hown, fun w h => by
    rcases List.mem_cons.mp h with h | h
    · rw [h]; exact htb _ ci_X_init
    · exact htb _ h, hK, fun _ h => h, rfl, rfl, rfl, rfl, Nat.zero_le _, Nat.zero_le _⟩
  suffices J : fx_J (xl_M p l e s m b below meth c (dC, dI) 0 0) [] 0 [some (.ref b), none, none, none, none, none, none, none] [] from J s.heap [] _ hP hD va_S.rf ⟨Nat.le_refl 8, hl⟩
  refine jr_new (ci := 0) (fs := [.null, .null, .null, .null, .null, .int 0, .int 0, .long 0]) (Cn := R_X) (T := T_X) (N := 8) C (fun w h => List.mem_cons_of_mem _ (u_X_in w h)) t_X t_X_ok (List.mem_cons_of_mem _ cl_L_8) (List.mem_cons_of_mem _ it_X) (List.mem_cons_of_mem _ ii_X) rfl (by decide +kernel) (Nat.le_of_ble_eq_true rfl) (Nat.le_of_ble_eq_true rfl) d_law_0 (fun q0 C => ?_)
  refine jr_w (ws2 := [(q0, .inr (0, [.null, .null, .null, .null, .null, .int 0, .int 0, .long 0]))]) rfl ?_
  refine jr_dup C d_law_3 rfl ?_
  refine jr_ctor (wr := []) C (cX_init l (dC, dI) q0) (gd_all ci_X_init) (List.mem_cons_of_mem _ ii_X) (List.mem_cons_of_mem _ ml_L_X_init) (List.mem_cons_of_mem _ im_X_init) rfl (by decide +kernel) ⟨rfl, rfl⟩ ⟨Nat.le_of_ble_eq_true rfl, Nat.le_of_ble_eq_true rfl⟩ (Nat.le_of_ble_eq_true rfl) [0] [] rfl rfl (by decide) rfl (by decide) (by decide) (Nat.le_of_ble_eq_true rfl) (Nat.le_of_ble_eq_true rfl) d_law_4 (fun u hu C => ?_)
  obtain ⟨q, k, σ⟩ := u
  obtain ⟨rfl, hx⟩ := hu
  refine jr_w (ws2 := w_X q k σ) rfl ?_
  refine jr_astore_1 C d_law_7 rfl ?_
  refine jr_new (ci := 1) (fs := [.int 0, .int 0, .int 0, .null, .null, .null, .null, .null, .null, .null, .null, .null, .int 0]) (Cn := R_M) (T := T_M) (N := 13) C (fun w h => List.mem_cons_of_mem _ (u_M_in w h)) t_M t_M_ok (List.mem_cons_of_mem _ cl_L_16) (List.mem_cons_of_mem _ it_M) (List.mem_cons_of_mem _ ii_M) rfl (by decide +kernel) (Nat.le_of_ble_eq_true rfl) (Nat.le_of_ble_eq_true rfl) d_law_8 (fun q1 C => ?_)
  refine jr_dup C d_law_11 rfl ?_
  refine jr_ctor (wr := w_X q k σ) C (cM_init l (dC, dI) q1) (gd_all ci_M_init) (List.mem_cons_of_mem _ ii_M) (List.mem_cons_of_mem _ ml_L_M_init) (List.mem_cons_of_mem _ im_M_init) rfl (by decide +kernel) ⟨rfl, rfl⟩ ⟨Nat.le_of_ble_eq_true rfl, Nat.le_of_ble_eq_true rfl⟩ (Nat.le_of_ble_eq_true rfl) [6] [0, 1, 2, 3, 4, 5] rfl rfl (by decide) rfl (by decide) (by decide) (Nat.le_of_ble_eq_true rfl) (Nat.le_of_ble_eq_true rfl) d_law_12 (fun u hu C => ?_)
  obtain ⟨q2, k2, τ⟩ := u
  obtain ⟨rfl, hm⟩ := hu
  refine jr_astore_2 C d_law_15 rfl ?_
  refine jr_iconst (v := nI 1) C d_law_16 (by decide) ?_
  refine jr_newa (a0 := (1, .inr (.inl (fun _ => 0)))) C (List.mem_cons_of_mem _ ac_long) rfl (fun _ => rfl) (by omega) (by decide) (Nat.le_of_ble_eq_true rfl) (Nat.le_of_ble_eq_true rfl) d_law_17 (fun qo co C => ?_)
  refine jr_w (ws2 := w_L q k q2 k2 qo co (σ, τ, fun _ => 0)) rfl ?_
  refine jr_astore_3 C d_law_19 rfl ?_
  refine jr_iconst (v := nI 0) C d_law_20 (by decide) ?_
  refine jr_istore_4 C d_law_21 rfl ?_
  exact law_loop (D := (dC, dI)) hlt hL C0 (C.2.2.2.2.2.1) hE 0 (Nat.zero_le L) a_0 (fun _ => (0, 0, 0)) σ τ (fun _ => 0) none none none wf_0 hx hm
