
def R_law : String := "FacetRowsLaw"
def lw_P (b : Addr) (xs : List Int32) (args : Array Value) (s : State) : Prop := args = #[.ref b] ∧ s.IntsAt b xs ∧ xs.length ≤ 2560 ∧ (Jvm.Cond.and given_1 narrow_1).before args s = true
def lw_Q (_ : Array Value) (s : State) (o : Outcome) (t : State) : Prop := o = .returned (some (.int 1)) ∧ Framed s o t [] 1042 13814
def lw_Z (below : List Frame) (a : Array Value) (s : State) : State → Prop := fun t => ∃ o, t.status = .running ∧ Ended t below o ∧ lw_Q a s o t

theorem lw_ret {p : Program} {l : Launch} {e : Env} {s : State} {m : MethodId} {below : List Frame} {meth : Method} {c : Code} {b : Nat} (hx : p.tables.exec = Jvm.exec) (hb : c.code = code) (hr : meth.sig.returnType = ret) (hlocks : meth.locks = false) {pc : Nat} {H : Heap} {ls : Array Slot} (hdg : decode code pc = .ok (.ireturn, 1)) : W p l e room_1 s m #[Value.ref b] below meth c H [] 1042 13814 (lw_Z below #[Value.ref b] s) (F0 m pc ls [.int 1]) := by
  intro T hT X
  obtain ⟨fs, hret, hrun, hended, hW, hframe⟩ := X.leave (v := some (.int 1)) (hlocks := hlocks) (fun h => by rw [hr] at h; cases h)
  have hmeth' : T.vm.method? m = some meth := X.method'
  refine ⟨T.setFrames fs, ?_, .returned (some (.int 1)), hrun, hended, rfl, ⟨_, rfl⟩, hW, hframe⟩
  jvm_step X.here [X.here.top, hx, hb, hdg, hmeth', hr, ret, narrow_b1]
  (try refine ⟨rfl, ?_⟩); (try refine ⟨rfl, ?_⟩)
  first | (intro acts; rw [hret _ acts rfl rfl rfl]) | rw [hret _ _ rfl rfl rfl]
  exact Steps.refl _

def lw_At (p : Program) (s : State) (m : MethodId) (meth : Method) (c : Code) (b L : Nat) (xs : Nat → Int32) : Prop :=
  p.tables.exec = Jvm.exec ∧ c.code = code ∧ meth.sig.returnType = ret ∧ c.maxLocals = 8 ∧ s.vm.findClass R_law = some m.cls ∧ (∀ w ∈ lw_tbl, w.before #[Value.ref b] s = true) ∧ va_X b L xs s s.heap ∧ b < s.heap.size ∧ meth.locks = false ∧ (Jvm.Cond.and given_1 narrow_1).before #[Value.ref b] s = true

def xl_M (p : Program) (l : Launch) (e : Env) (s : State) (m : MethodId) (b : Nat) (below : List Frame) (meth : Method) (c : Code) (D : va_G) (cells slots : Nat) : fx_M := ((p, l, e, room_1), (s, m, #[Value.ref b], below), (meth, c, lw_Z below #[Value.ref b] s), (D, cl_s, fun q => s.heap.size ≤ q), (8, cells, slots))
set_option maxHeartbeats 4000000 in
set_option maxRecDepth 100000 in
theorem law_loop {p : Program} {l : Launch} {e : Env} {s : State} {m : MethodId} {below : List Frame} {meth : Method} {c : Code} {D : va_G} {b L : Nat} {xs : Nat → Int32} {q q2 : Nat → Nat} {k k2 : Nat → ClassId} {qo sa : Nat} {co : ClassId} (hlt : l.stackTraces = false) (hL : L ≤ 2560) (C0 : lw_At p s m meth c b L xs) (hK : va_K D cl_s (ty_L k k2 co) s) (hE : ex_P sa (fun q => s.heap.size ≤ q) s s.heap) :
    ∀ n : Nat, 5 * n ≤ L → ∀ (a : ab_T) (R : Nat → Nat × Nat × Nat) (σ : sx_T) (τ : sm_T) (f : Nat → Int64) (z5 z6 z7 : Option Value), a_wf a → rx_r a σ → rm_r a R τ → fx_J (xl_M p l e s m b below meth c D (17 + n) (5616 + 6 * n)) (w_L q k q2 k2 qo co (σ, τ, f)) 23 [some (.ref b), some (.ref (q 0)), some (.ref (q2 0)), some (.ref qo), some (.int (nI (5 * n))), z5, z6, z7] [] := by
  obtain ⟨hxe, hb, hr, hml, hown, hts, hX, hbl, hlocks, hgv⟩ := C0
  have hbA : ¬ s.heap.size ≤ b := Nat.not_le.mpr hbl
  have CC : ∀ n, 5 * n ≤ L → fx_C (xl_M p l e s m b below meth c D (17 + n) (5616 + 6 * n)) l room_1 D cl_s (ty_L k k2 co) code (k_X_init :: tb_l) R_L := fun n hn => ⟨hxe, hb, hml, hown, fun w h => by
    rcases List.mem_cons.mp h with h | h
    · rw [h]; exact hts _ (tb_ok ci_X_init)
    · exact hts _ (tb_ok h), hK, fun _ h => h, rfl, rfl, rfl, rfl, by show 17 + n ≤ 1042; omega, by show 5616 + 6 * n ≤ 13814; omega⟩
  refine lp_ms (fun n => 1000 - n) (fun n ih hn a R σ τ f z5 z6 z7 hw hx hm => ?_)
  have C := CC n hn
  refine jr_iload_4 C d_law_23 ?_
  refine jr_aload_0 C d_law_25 ?_
  refine jr_slen C hX hbl hbA d_law_26 ?_
  refine jr_iconst (v := nI 5) C d_law_27 (by decide) ?_
  refine jr_isub C d_law_28 ?_
  refine jr_icmp_gt (tgt := 689) C d_law_29 (by decide) (fun h => ?_) (fun h => ?_)
  · refine jr_iconst (v := 1) C d_law_689 (by decide) ?_
    intro H locs ls hP hD hS hl
    refine va_forget (fun q hq => hS.2.2 q hq) ?_
    refine W.widen (k := 1042) (n := 13814) (by show 17 + n ≤ 1042; omega) (by show 5616 + 6 * n ≤ 13814; omega) ?_
    exact lw_ret hxe hb hr hlocks d_law_690
  · have hn5 : 5 * n + 5 ≤ L := by
      rw [Int32.lt_iff_toInt_lt, pk_sub_toInt (by omega) (by omega), nI_toInt (by omega)] at h
      omega
    have next1 : ∀ (a : ab_T) (R : Nat → Nat × Nat × Nat) (σ : sx_T) (τ : sm_T) (f : Nat → Int64) (z5 z6 z7 : Option Value), a_wf a → rx_r a σ → rm_r a R τ → fx_J (xl_M p l e s m b below meth c D (17 + (n + 1)) (5616 + 6 * (n + 1))) (w_L q k q2 k2 qo co (σ, τ, f)) 683 [some (.ref b), some (.ref (q 0)), some (.ref (q2 0)), some (.ref qo), some (.int (nI (5 * n))), z5, z6, z7] [] := by
      intro a R σ τ f z5 z6 z7 hw hx hm
      have C := CC (n + 1) (by omega)
      refine jr_iinc_4 (v := nI (5 * (n + 1))) C d_law_683 (by show nI (5 * n) + nI 5 = nI (5 * (n + 1)); rw [nI_add]; rfl) rfl ?_
      refine jr_goto (tgt := 23) C d_law_686 (by decide) ?_
      exact ih (n + 1) (by omega) (by omega) a R σ τ f z5 z6 z7 hw hx hm
    have next0 : ∀ (a : ab_T) (R : Nat → Nat × Nat × Nat) (σ : sx_T) (τ : sm_T) (f : Nat → Int64) (z5 z6 z7 : Option Value), a_wf a → rx_r a σ → rm_r a R τ → fx_J (xl_M p l e s m b below meth c D (17 + n) (5616 + 6 * n)) (w_L q k q2 k2 qo co (σ, τ, f)) 683 [some (.ref b), some (.ref (q 0)), some (.ref (q2 0)), some (.ref qo), some (.int (nI (5 * n))), z5, z6, z7] [] := fun a R σ τ f z5 z6 z7 hw hx hm => jr_widen (a := 1) (b := 6) (next1 a R σ τ f z5 z6 z7 hw hx hm)
    refine jr_aload_0 C d_law_32 ?_
    refine jr_iload_4 C d_law_33 ?_
    refine jr_sld C hX hbl hbA (by omega) (by omega) d_law_35 ?_
    refine jr_bipush (v := nI 15) C d_law_36 (by decide) ?_
    obtain ⟨j, hj, ej⟩ : ∃ j : Nat, j < 16 ∧ xs (5 * n) &&& nI 15 = nI j := ⟨_, Nat.mod_lt _ (by decide), pk_and _ 4 (by decide)⟩
    refine jr_iand C d_law_38 ?_
    refine jr_eqi ej ?_
    rcases (show j = 0 ∨ j = 1 ∨ j = 2 ∨ j = 3 ∨ j = 4 ∨ j = 5 ∨ j = 6 ∨ j = 7 ∨ j = 8 ∨ j = 9 ∨ j = 10 ∨ j = 11 ∨ j = 12 ∨ (13 ≤ j) by omega) with rfl | rfl | rfl | rfl | rfl | rfl | rfl | rfl | rfl | rfl | rfl | rfl | rfl | hj13
    · refine jr_tin (off := 65) (tgt := 104) C d_law_39 (by decide) (by decide) (by decide) (by decide) ?_
      refine jr_aload_1 C d_law_104 ?_
      refine jL_X_record C (cX_record l D q k σ a hw hx) ⟨Nat.le_of_ble_eq_true rfl, Nat.le_of_ble_eq_true rfl⟩ (Nat.le_of_ble_eq_true rfl) d_law_105 (fun r1 σ1 g1 => ?_)
      refine jr_aload_2 C d_law_108 ?_
      refine jL_M_record C (cM_record l D q2 k2 τ a R hw hm) ⟨Nat.le_of_ble_eq_true rfl, Nat.le_of_ble_eq_true rfl⟩ (Nat.le_of_ble_eq_true rfl) d_law_109 (fun r2 τ1 g2 => ?_)
      refine jr_icmp_eq (tgt := 683) C d_law_112 (by decide) (fun e => ?_) (fun e => ?_)
      · exact next0 _ R σ1 τ1 f z5 z6 z7 (wf_record hw) g1.2 g2.2
      · exact absurd (by rw [g1.1, g2.1]) e
    · refine jr_tin (off := 78) (tgt := 117) C d_law_39 (by decide) (by decide) (by decide) (by decide) ?_
      refine jr_aload_1 C d_law_117 ?_
      refine jr_aload_0 C d_law_118 ?_
      refine jr_iload_4 C d_law_119 ?_
      refine jr_iconst (v := nI 1) C d_law_121 (by decide) ?_
      refine jr_iaddN C d_law_122 ?_
      refine jr_sld C hX hbl hbA (by omega) (by omega) d_law_123 ?_
      refine jr_aload_0 C d_law_124 ?_
      refine jr_iload_4 C d_law_125 ?_
      refine jr_iconst (v := nI 2) C d_law_127 (by decide) ?_
      refine jr_iaddN C d_law_128 ?_
      refine jr_sld C hX hbl hbA (by omega) (by omega) d_law_129 ?_
      refine jr_aload_0 C d_law_130 ?_
      refine jr_iload_4 C d_law_131 ?_
      refine jr_iconst (v := nI 3) C d_law_133 (by decide) ?_
      refine jr_iaddN C d_law_134 ?_
      refine jr_sld C hX hbl hbA (by omega) (by omega) d_law_135 ?_
      refine jL_X_value C (cX_value l D q k σ a hw hx _ _ _) ⟨Nat.le_of_ble_eq_true rfl, Nat.le_of_ble_eq_true rfl⟩ (Nat.le_of_ble_eq_true rfl) d_law_136 (fun r1 σ1 g1 => ?_)
      refine jr_aload_2 C d_law_139 ?_
      refine jr_aload_0 C d_law_140 ?_
      refine jr_iload_4 C d_law_141 ?_
      refine jr_iconst (v := nI 1) C d_law_143 (by decide) ?_
      refine jr_iaddN C d_law_144 ?_
      refine jr_sld C hX hbl hbA (by omega) (by omega) d_law_145 ?_
      refine jr_aload_0 C d_law_146 ?_
      refine jr_iload_4 C d_law_147 ?_
      refine jr_iconst (v := nI 2) C d_law_149 (by decide) ?_
      refine jr_iaddN C d_law_150 ?_
      refine jr_sld C hX hbl hbA (by omega) (by omega) d_law_151 ?_
      refine jr_aload_0 C d_law_152 ?_
      refine jr_iload_4 C d_law_153 ?_
      refine jr_iconst (v := nI 3) C d_law_155 (by decide) ?_
      refine jr_iaddN C d_law_156 ?_
      refine jr_sld C hX hbl hbA (by omega) (by omega) d_law_157 ?_
      refine jL_M_value C (cM_value l D q2 k2 τ a R hw hm _ _ _) ⟨Nat.le_of_ble_eq_true rfl, Nat.le_of_ble_eq_true rfl⟩ (Nat.le_of_ble_eq_true rfl) d_law_158 (fun r2 τ1 g2 => ?_)
      refine jr_icmp_eq (tgt := 683) C d_law_161 (by decide) (fun e => ?_) (fun e => ?_)
      · obtain ⟨-, R2, g3⟩ := g2
        exact next0 _ R2 σ1 τ1 f z5 z6 z7 (wf_value hw _ _ _) g1.2 g3
      · exact absurd (by rw [g1.1, g2.1]) e
    · refine jr_tin (off := 127) (tgt := 166) C d_law_39 (by decide) (by decide) (by decide) (by decide) ?_
      refine jr_aload_1 C d_law_166 ?_
      refine jr_aload_0 C d_law_167 ?_
      refine jr_iload_4 C d_law_168 ?_
      refine jr_iconst (v := nI 1) C d_law_170 (by decide) ?_
      refine jr_iaddN C d_law_171 ?_
      refine jr_sld C hX hbl hbA (by omega) (by omega) d_law_172 ?_
      refine jr_aload_0 C d_law_173 ?_
      refine jr_iload_4 C d_law_174 ?_
      refine jr_iconst (v := nI 2) C d_law_176 (by decide) ?_
      refine jr_iaddN C d_law_177 ?_
      refine jr_sld C hX hbl hbA (by omega) (by omega) d_law_178 ?_
      refine jr_aload_0 C d_law_179 ?_
      refine jr_iload_4 C d_law_180 ?_
      refine jr_iconst (v := nI 3) C d_law_182 (by decide) ?_
      refine jr_iaddN C d_law_183 ?_
      refine jr_sld C hX hbl hbA (by omega) (by omega) d_law_184 ?_
      refine jL_X_gone C (cX_gone l D q k σ a hw hx (pm_pos hm) _ _ _) ⟨Nat.le_of_ble_eq_true rfl, Nat.le_of_ble_eq_true rfl⟩ (Nat.le_of_ble_eq_true rfl) d_law_185 (fun r1 σ1 g1 => ?_)
      refine jr_aload_2 C d_law_188 ?_
      refine jr_aload_0 C d_law_189 ?_
      refine jr_iload_4 C d_law_190 ?_
      refine jr_iconst (v := nI 1) C d_law_192 (by decide) ?_
      refine jr_iaddN C d_law_193 ?_
      refine jr_sld C hX hbl hbA (by omega) (by omega) d_law_194 ?_
      refine jr_aload_0 C d_law_195 ?_
      refine jr_iload_4 C d_law_196 ?_
      refine jr_iconst (v := nI 2) C d_law_198 (by decide) ?_
      refine jr_iaddN C d_law_199 ?_
      refine jr_sld C hX hbl hbA (by omega) (by omega) d_law_200 ?_
      refine jr_aload_0 C d_law_201 ?_
      refine jr_iload_4 C d_law_202 ?_
      refine jr_iconst (v := nI 3) C d_law_204 (by decide) ?_
      refine jr_iaddN C d_law_205 ?_
      refine jr_sld C hX hbl hbA (by omega) (by omega) d_law_206 ?_
      refine jL_M_gone C (cM_gone l D q2 k2 τ a R hw hm _ _ _) ⟨Nat.le_of_ble_eq_true rfl, Nat.le_of_ble_eq_true rfl⟩ (Nat.le_of_ble_eq_true rfl) d_law_207 (fun r2 τ1 g2 => ?_)
      refine jr_icmp_eq (tgt := 683) C d_law_210 (by decide) (fun e => ?_) (fun e => ?_)
      · obtain ⟨-, R2, g3⟩ := g2
        exact next0 _ R2 σ1 τ1 f z5 z6 z7 (wf_gone hw _ _ _) g1.2 g3
      · exact absurd (by rw [g1.1, g2.1]) e
    · refine jr_tin (off := 176) (tgt := 215) C d_law_39 (by decide) (by decide) (by decide) (by decide) ?_
      refine jr_aload_1 C d_law_215 ?_
      refine jr_aload_0 C d_law_216 ?_
      refine jr_iload_4 C d_law_217 ?_
      refine jr_iconst (v := nI 1) C d_law_219 (by decide) ?_
      refine jr_iaddN C d_law_220 ?_
      refine jr_sld C hX hbl hbA (by omega) (by omega) d_law_221 ?_
      refine jr_aload_0 C d_law_222 ?_
      refine jr_iload_4 C d_law_223 ?_
      refine jr_iconst (v := nI 2) C d_law_225 (by decide) ?_
      refine jr_iaddN C d_law_226 ?_
      refine jr_sld C hX hbl hbA (by omega) (by omega) d_law_227 ?_
      refine jr_aload_0 C d_law_228 ?_
      refine jr_iload_4 C d_law_229 ?_
      refine jr_iconst (v := nI 3) C d_law_231 (by decide) ?_
      refine jr_iaddN C d_law_232 ?_
      refine jr_sld C hX hbl hbA (by omega) (by omega) d_law_233 ?_
      refine jL_X_narrower C (cX_narrower l D q k σ a hw hx _ _ _) ⟨Nat.le_of_ble_eq_true rfl, Nat.le_of_ble_eq_true rfl⟩ (Nat.le_of_ble_eq_true rfl) d_law_234 (fun r1 σ1 g1 => ?_)
      refine jr_aload_2 C d_law_237 ?_
      refine jr_aload_0 C d_law_238 ?_
      refine jr_iload_4 C d_law_239 ?_
      refine jr_iconst (v := nI 1) C d_law_241 (by decide) ?_
      refine jr_iaddN C d_law_242 ?_
      refine jr_sld C hX hbl hbA (by omega) (by omega) d_law_243 ?_
      refine jr_aload_0 C d_law_244 ?_
      refine jr_iload_4 C d_law_245 ?_
      refine jr_iconst (v := nI 2) C d_law_247 (by decide) ?_
      refine jr_iaddN C d_law_248 ?_
      refine jr_sld C hX hbl hbA (by omega) (by omega) d_law_249 ?_
      refine jr_aload_0 C d_law_250 ?_
      refine jr_iload_4 C d_law_251 ?_
      refine jr_iconst (v := nI 3) C d_law_253 (by decide) ?_
      refine jr_iaddN C d_law_254 ?_
      refine jr_sld C hX hbl hbA (by omega) (by omega) d_law_255 ?_
      refine jL_M_narrower C (cM_narrower l D q2 k2 τ a R hw hm _ _ _) ⟨Nat.le_of_ble_eq_true rfl, Nat.le_of_ble_eq_true rfl⟩ (Nat.le_of_ble_eq_true rfl) d_law_256 (fun r2 τ1 g2 => ?_)
      refine jr_icmp_eq (tgt := 683) C d_law_259 (by decide) (fun e => ?_) (fun e => ?_)
      · exact next0 _ R σ1 τ1 f z5 z6 z7 (wf_narrower hw _ _ _) g1.2 g2.2
      · exact absurd (by rw [g1.1, g2.1]) e
    · refine jr_tin (off := 225) (tgt := 264) C d_law_39 (by decide) (by decide) (by decide) (by decide) ?_
      refine jr_aload_1 C d_law_264 ?_
      refine jr_aload_0 C d_law_265 ?_
      refine jr_iload_4 C d_law_266 ?_
      refine jr_iconst (v := nI 1) C d_law_268 (by decide) ?_
      refine jr_iaddN C d_law_269 ?_
      refine jr_sld C hX hbl hbA (by omega) (by omega) d_law_270 ?_
      refine jr_aload_0 C d_law_271 ?_
      refine jr_iload_4 C d_law_272 ?_
      refine jr_iconst (v := nI 2) C d_law_274 (by decide) ?_
      refine jr_iaddN C d_law_275 ?_
      refine jr_sld C hX hbl hbA (by omega) (by omega) d_law_276 ?_
      refine jr_if_eq (tgt := 284) C d_law_277 (by decide) (fun e0 => ?_) (fun e0 => ?_)
      · refine jr_iconst (v := nI 0) C d_law_284 (by decide) ?_
        refine jr_eqi (show nI 0 = b01 false from rfl) ?_
        refine jL_X_hit C (cX_hit l D q k σ a hw hx _ false) ⟨Nat.le_of_ble_eq_true rfl, Nat.le_of_ble_eq_true rfl⟩ (Nat.le_of_ble_eq_true rfl) d_law_285 (fun r1 σ1 g1 => ?_)
        refine jr_aload_2 C d_law_288 ?_
        refine jr_aload_0 C d_law_289 ?_
        refine jr_iload_4 C d_law_290 ?_
        refine jr_iconst (v := nI 1) C d_law_292 (by decide) ?_
        refine jr_iaddN C d_law_293 ?_
        refine jr_sld C hX hbl hbA (by omega) (by omega) d_law_294 ?_
        refine jr_aload_0 C d_law_295 ?_
        refine jr_iload_4 C d_law_296 ?_
        refine jr_iconst (v := nI 2) C d_law_298 (by decide) ?_
        refine jr_iaddN C d_law_299 ?_
        refine jr_sld C hX hbl hbA (by omega) (by omega) d_law_300 ?_
        refine jr_if_eq (tgt := 308) C d_law_301 (by decide) (fun e1 => ?_) (fun e1 => ?_)
        · refine jr_iconst (v := nI 0) C d_law_308 (by decide) ?_
          refine jr_eqi (show nI 0 = b01 false from rfl) ?_
          refine jL_M_hit C (cM_hit l D q2 k2 τ a R hw hm _ false) ⟨Nat.le_of_ble_eq_true rfl, Nat.le_of_ble_eq_true rfl⟩ (Nat.le_of_ble_eq_true rfl) d_law_309 (fun r2 τ1 g2 => ?_)
          refine jr_icmp_eq (tgt := 683) C d_law_312 (by decide) (fun e => ?_) (fun e => ?_)
          · exact next0 _ R σ1 τ1 f z5 z6 z7 (wf_hit hw _ _) g1.2 g2.2
          · exact absurd (by rw [g1.1, g2.1]) e
        · exact absurd e0 e1
      · refine jr_iconst (v := nI 1) C d_law_280 (by decide) ?_
        refine jr_goto (tgt := 285) C d_law_281 (by decide) ?_
        refine jr_eqi (show nI 1 = b01 true from rfl) ?_
        refine jL_X_hit C (cX_hit l D q k σ a hw hx _ true) ⟨Nat.le_of_ble_eq_true rfl, Nat.le_of_ble_eq_true rfl⟩ (Nat.le_of_ble_eq_true rfl) d_law_285 (fun r1 σ1 g1 => ?_)
        refine jr_aload_2 C d_law_288 ?_
        refine jr_aload_0 C d_law_289 ?_
        refine jr_iload_4 C d_law_290 ?_
        refine jr_iconst (v := nI 1) C d_law_292 (by decide) ?_
        refine jr_iaddN C d_law_293 ?_
        refine jr_sld C hX hbl hbA (by omega) (by omega) d_law_294 ?_
        refine jr_aload_0 C d_law_295 ?_
        refine jr_iload_4 C d_law_296 ?_
        refine jr_iconst (v := nI 2) C d_law_298 (by decide) ?_
        refine jr_iaddN C d_law_299 ?_
        refine jr_sld C hX hbl hbA (by omega) (by omega) d_law_300 ?_
        refine jr_if_eq (tgt := 308) C d_law_301 (by decide) (fun e1 => ?_) (fun e1 => ?_)
        · exact absurd e1 e0
        · refine jr_iconst (v := nI 1) C d_law_304 (by decide) ?_
          refine jr_goto (tgt := 309) C d_law_305 (by decide) ?_
          refine jr_eqi (show nI 1 = b01 true from rfl) ?_
          refine jL_M_hit C (cM_hit l D q2 k2 τ a R hw hm _ true) ⟨Nat.le_of_ble_eq_true rfl, Nat.le_of_ble_eq_true rfl⟩ (Nat.le_of_ble_eq_true rfl) d_law_309 (fun r2 τ1 g2 => ?_)
          refine jr_icmp_eq (tgt := 683) C d_law_312 (by decide) (fun e => ?_) (fun e => ?_)
          · exact next0 _ R σ1 τ1 f z5 z6 z7 (wf_hit hw _ _) g1.2 g2.2
          · exact absurd (by rw [g1.1, g2.1]) e
    · refine jr_tin (off := 278) (tgt := 317) C d_law_39 (by decide) (by decide) (by decide) (by decide) ?_
      refine jr_aload_1 C d_law_317 ?_
      refine jr_aload_0 C d_law_318 ?_
      refine jr_iload_4 C d_law_319 ?_
      refine jr_iconst (v := nI 1) C d_law_321 (by decide) ?_
      refine jr_iaddN C d_law_322 ?_
      refine jr_sld C hX hbl hbA (by omega) (by omega) d_law_323 ?_
      refine jr_aload_0 C d_law_324 ?_
      refine jr_iload_4 C d_law_325 ?_
      refine jr_iconst (v := nI 2) C d_law_327 (by decide) ?_
      refine jr_iaddN C d_law_328 ?_
      refine jr_sld C hX hbl hbA (by omega) (by omega) d_law_329 ?_
      refine jL_X_choose C (cX_choose l D q k σ a hx _ _) ⟨Nat.le_of_ble_eq_true rfl, Nat.le_of_ble_eq_true rfl⟩ (Nat.le_of_ble_eq_true rfl) d_law_330 (fun r1 σ1 g1 => ?_)
      refine jr_aload_2 C d_law_333 ?_
      refine jr_aload_0 C d_law_334 ?_
      refine jr_iload_4 C d_law_335 ?_
      refine jr_iconst (v := nI 1) C d_law_337 (by decide) ?_
      refine jr_iaddN C d_law_338 ?_
      refine jr_sld C hX hbl hbA (by omega) (by omega) d_law_339 ?_
      refine jr_aload_0 C d_law_340 ?_
      refine jr_iload_4 C d_law_341 ?_
      refine jr_iconst (v := nI 2) C d_law_343 (by decide) ?_
      refine jr_iaddN C d_law_344 ?_
      refine jr_sld C hX hbl hbA (by omega) (by omega) d_law_345 ?_
      refine jL_M_choose C (cM_choose l D q2 k2 τ a R hw hm _ _) ⟨Nat.le_of_ble_eq_true rfl, Nat.le_of_ble_eq_true rfl⟩ (Nat.le_of_ble_eq_true rfl) d_law_346 (fun r2 τ1 g2 => ?_)
      refine jr_icmp_eq (tgt := 683) C d_law_349 (by decide) (fun e => ?_) (fun e => ?_)
      · exact next0 _ R σ1 τ1 f z5 z6 z7 (wf_choose hw _ _) g1.2 g2.2
      · exact absurd (by rw [g1.1, g2.1]) e
    · refine jr_tin (off := 315) (tgt := 354) C d_law_39 (by decide) (by decide) (by decide) (by decide) ?_
      refine jr_aload_1 C d_law_354 ?_
      refine jr_aload_0 C d_law_355 ?_
      refine jr_iload_4 C d_law_356 ?_
      refine jr_iconst (v := nI 1) C d_law_358 (by decide) ?_
      refine jr_iaddN C d_law_359 ?_
      refine jr_sld C hX hbl hbA (by omega) (by omega) d_law_360 ?_
      refine jr_aload_0 C d_law_361 ?_
      refine jr_iload_4 C d_law_362 ?_
      refine jr_iconst (v := nI 2) C d_law_364 (by decide) ?_
      refine jr_iaddN C d_law_365 ?_
      refine jr_sld C hX hbl hbA (by omega) (by omega) d_law_366 ?_
      refine jL_X_count C (cX_count l D q k σ a hx _ _) ⟨Nat.le_of_ble_eq_true rfl, Nat.le_of_ble_eq_true rfl⟩ (Nat.le_of_ble_eq_true rfl) d_law_367 (fun r1 σ1 g1 => ?_)
      refine jr_aload_2 C d_law_370 ?_
      refine jr_aload_0 C d_law_371 ?_
      refine jr_iload_4 C d_law_372 ?_
      refine jr_iconst (v := nI 1) C d_law_374 (by decide) ?_
      refine jr_iaddN C d_law_375 ?_
      refine jr_sld C hX hbl hbA (by omega) (by omega) d_law_376 ?_
      refine jr_aload_0 C d_law_377 ?_
      refine jr_iload_4 C d_law_378 ?_
      refine jr_iconst (v := nI 2) C d_law_380 (by decide) ?_
      refine jr_iaddN C d_law_381 ?_
      refine jr_sld C hX hbl hbA (by omega) (by omega) d_law_382 ?_
      refine jL_M_count C (cM_count l D q2 k2 τ a R hw hm _ _) ⟨Nat.le_of_ble_eq_true rfl, Nat.le_of_ble_eq_true rfl⟩ (Nat.le_of_ble_eq_true rfl) d_law_383 (fun r2 τ1 g2 => ?_)
      refine jr_icmp_eq (tgt := 683) C d_law_386 (by decide) (fun e => ?_) (fun e => ?_)
      · exact next0 a R σ1 τ1 f z5 z6 z7 hw g1.2 g2.2
      · exact absurd (by rw [g1.1, g2.1]) e
    · refine jr_tin (off := 352) (tgt := 391) C d_law_39 (by decide) (by decide) (by decide) (by decide) ?_
      refine jr_aload_1 C d_law_391 ?_
      refine jr_aload_0 C d_law_392 ?_
      refine jr_iload_4 C d_law_393 ?_
      refine jr_iconst (v := nI 1) C d_law_395 (by decide) ?_
      refine jr_iaddN C d_law_396 ?_
      refine jr_sld C hX hbl hbA (by omega) (by omega) d_law_397 ?_
      refine jr_aload_0 C d_law_398 ?_
      refine jr_iload_4 C d_law_399 ?_
      refine jr_iconst (v := nI 2) C d_law_401 (by decide) ?_
      refine jr_iaddN C d_law_402 ?_
      refine jr_sld C hX hbl hbA (by omega) (by omega) d_law_403 ?_
      refine jL_X_top C (cX_top l D q k σ a hw hx _ _) ⟨Nat.le_of_ble_eq_true rfl, Nat.le_of_ble_eq_true rfl⟩ (Nat.le_of_ble_eq_true rfl) d_law_404 (fun r1 σ1 g1 => ?_)
      refine jr_aload_2 C d_law_407 ?_
      refine jr_aload_0 C d_law_408 ?_
      refine jr_iload_4 C d_law_409 ?_
      refine jr_iconst (v := nI 1) C d_law_411 (by decide) ?_
      refine jr_iaddN C d_law_412 ?_
      refine jr_sld C hX hbl hbA (by omega) (by omega) d_law_413 ?_
      refine jr_aload_0 C d_law_414 ?_
      refine jr_iload_4 C d_law_415 ?_
      refine jr_iconst (v := nI 2) C d_law_417 (by decide) ?_
      refine jr_iaddN C d_law_418 ?_
      refine jr_sld C hX hbl hbA (by omega) (by omega) d_law_419 ?_
      refine jL_M_top C (cM_top l D q2 k2 τ a R hw hm _ _) ⟨Nat.le_of_ble_eq_true rfl, Nat.le_of_ble_eq_true rfl⟩ (Nat.le_of_ble_eq_true rfl) d_law_420 (fun r2 τ1 g2 => ?_)
      refine jr_icmp_eq (tgt := 683) C d_law_423 (by decide) (fun e => ?_) (fun e => ?_)
      · exact next0 a R σ1 τ1 f z5 z6 z7 hw g1.2 g2.2
      · exact absurd (fn_top g1.1 g2.1) e
    · refine jr_tin (off := 389) (tgt := 428) C d_law_39 (by decide) (by decide) (by decide) (by decide) ?_
      refine jr_aload_1 C d_law_428 ?_
      refine jr_aload_0 C d_law_429 ?_
      refine jr_iload_4 C d_law_430 ?_
      refine jr_iconst (v := nI 1) C d_law_432 (by decide) ?_
      refine jr_iaddN C d_law_433 ?_
      refine jr_sld C hX hbl hbA (by omega) (by omega) d_law_434 ?_
      refine jr_aload_0 C d_law_435 ?_
      refine jr_iload_4 C d_law_436 ?_
      refine jr_iconst (v := nI 2) C d_law_438 (by decide) ?_
      refine jr_iaddN C d_law_439 ?_
      refine jr_sld C hX hbl hbA (by omega) (by omega) d_law_440 ?_
      refine jr_if_eq (tgt := 448) C d_law_441 (by decide) (fun e0 => ?_) (fun e0 => ?_)
      · refine jr_iconst (v := nI 0) C d_law_448 (by decide) ?_
        refine jr_eqi (show nI 0 = b01 false from rfl) ?_
        refine jr_aload_0 C d_law_449 ?_
        refine jr_iload_4 C d_law_450 ?_
        refine jr_iconst (v := nI 3) C d_law_452 (by decide) ?_
        refine jr_iaddN C d_law_453 ?_
        refine jr_sld C hX hbl hbA (by omega) (by omega) d_law_454 ?_
        refine jr_aload_0 C d_law_455 ?_
        refine jr_iload_4 C d_law_456 ?_
        refine jr_iconst (v := nI 4) C d_law_458 (by decide) ?_
        refine jr_iaddN C d_law_459 ?_
        refine jr_sld C hX hbl hbA (by omega) (by omega) d_law_460 ?_
        refine jL_X_below C (cX_below l D q k σ a hw hx _ false _ _) ⟨Nat.le_of_ble_eq_true rfl, Nat.le_of_ble_eq_true rfl⟩ (Nat.le_of_ble_eq_true rfl) d_law_461 (fun r1 σ1 g1 => ?_)
        refine jr_aload_2 C d_law_464 ?_
        refine jr_aload_0 C d_law_465 ?_
        refine jr_iload_4 C d_law_466 ?_
        refine jr_iconst (v := nI 1) C d_law_468 (by decide) ?_
        refine jr_iaddN C d_law_469 ?_
        refine jr_sld C hX hbl hbA (by omega) (by omega) d_law_470 ?_
        refine jr_aload_0 C d_law_471 ?_
        refine jr_iload_4 C d_law_472 ?_
        refine jr_iconst (v := nI 2) C d_law_474 (by decide) ?_
        refine jr_iaddN C d_law_475 ?_
        refine jr_sld C hX hbl hbA (by omega) (by omega) d_law_476 ?_
        refine jr_if_eq (tgt := 484) C d_law_477 (by decide) (fun e1 => ?_) (fun e1 => ?_)
        · refine jr_iconst (v := nI 0) C d_law_484 (by decide) ?_
          refine jr_eqi (show nI 0 = b01 false from rfl) ?_
          refine jr_aload_0 C d_law_485 ?_
          refine jr_iload_4 C d_law_486 ?_
          refine jr_iconst (v := nI 3) C d_law_488 (by decide) ?_
          refine jr_iaddN C d_law_489 ?_
          refine jr_sld C hX hbl hbA (by omega) (by omega) d_law_490 ?_
          refine jr_aload_0 C d_law_491 ?_
          refine jr_iload_4 C d_law_492 ?_
          refine jr_iconst (v := nI 4) C d_law_494 (by decide) ?_
          refine jr_iaddN C d_law_495 ?_
          refine jr_sld C hX hbl hbA (by omega) (by omega) d_law_496 ?_
          refine jL_M_below C (cM_below l D q2 k2 τ a R hw hm _ false _ _) ⟨Nat.le_of_ble_eq_true rfl, Nat.le_of_ble_eq_true rfl⟩ (Nat.le_of_ble_eq_true rfl) d_law_497 (fun r2 τ1 g2 => ?_)
          refine jr_icmp_eq (tgt := 683) C d_law_500 (by decide) (fun e => ?_) (fun e => ?_)
          · exact next0 a R σ1 τ1 f z5 z6 z7 hw g1.2 g2.2
          · exact absurd (fn_below g1.1 g2.1) e
        · exact absurd e0 e1
      · refine jr_iconst (v := nI 1) C d_law_444 (by decide) ?_
        refine jr_goto (tgt := 449) C d_law_445 (by decide) ?_
        refine jr_eqi (show nI 1 = b01 true from rfl) ?_
        refine jr_aload_0 C d_law_449 ?_
        refine jr_iload_4 C d_law_450 ?_
        refine jr_iconst (v := nI 3) C d_law_452 (by decide) ?_
        refine jr_iaddN C d_law_453 ?_
        refine jr_sld C hX hbl hbA (by omega) (by omega) d_law_454 ?_
        refine jr_aload_0 C d_law_455 ?_
        refine jr_iload_4 C d_law_456 ?_
        refine jr_iconst (v := nI 4) C d_law_458 (by decide) ?_
        refine jr_iaddN C d_law_459 ?_
        refine jr_sld C hX hbl hbA (by omega) (by omega) d_law_460 ?_
        refine jL_X_below C (cX_below l D q k σ a hw hx _ true _ _) ⟨Nat.le_of_ble_eq_true rfl, Nat.le_of_ble_eq_true rfl⟩ (Nat.le_of_ble_eq_true rfl) d_law_461 (fun r1 σ1 g1 => ?_)
        refine jr_aload_2 C d_law_464 ?_
        refine jr_aload_0 C d_law_465 ?_
        refine jr_iload_4 C d_law_466 ?_
        refine jr_iconst (v := nI 1) C d_law_468 (by decide) ?_
        refine jr_iaddN C d_law_469 ?_
        refine jr_sld C hX hbl hbA (by omega) (by omega) d_law_470 ?_
        refine jr_aload_0 C d_law_471 ?_
        refine jr_iload_4 C d_law_472 ?_
        refine jr_iconst (v := nI 2) C d_law_474 (by decide) ?_
        refine jr_iaddN C d_law_475 ?_
        refine jr_sld C hX hbl hbA (by omega) (by omega) d_law_476 ?_
        refine jr_if_eq (tgt := 484) C d_law_477 (by decide) (fun e1 => ?_) (fun e1 => ?_)
        · exact absurd e1 e0
        · refine jr_iconst (v := nI 1) C d_law_480 (by decide) ?_
          refine jr_goto (tgt := 485) C d_law_481 (by decide) ?_
          refine jr_eqi (show nI 1 = b01 true from rfl) ?_
          refine jr_aload_0 C d_law_485 ?_
          refine jr_iload_4 C d_law_486 ?_
          refine jr_iconst (v := nI 3) C d_law_488 (by decide) ?_
          refine jr_iaddN C d_law_489 ?_
          refine jr_sld C hX hbl hbA (by omega) (by omega) d_law_490 ?_
          refine jr_aload_0 C d_law_491 ?_
          refine jr_iload_4 C d_law_492 ?_
          refine jr_iconst (v := nI 4) C d_law_494 (by decide) ?_
          refine jr_iaddN C d_law_495 ?_
          refine jr_sld C hX hbl hbA (by omega) (by omega) d_law_496 ?_
          refine jL_M_below C (cM_below l D q2 k2 τ a R hw hm _ true _ _) ⟨Nat.le_of_ble_eq_true rfl, Nat.le_of_ble_eq_true rfl⟩ (Nat.le_of_ble_eq_true rfl) d_law_497 (fun r2 τ1 g2 => ?_)
          refine jr_icmp_eq (tgt := 683) C d_law_500 (by decide) (fun e => ?_) (fun e => ?_)
          · exact next0 a R σ1 τ1 f z5 z6 z7 hw g1.2 g2.2
          · exact absurd (fn_below g1.1 g2.1) e
    · refine jr_tin (off := 466) (tgt := 505) C d_law_39 (by decide) (by decide) (by decide) (by decide) ?_
      refine jr_aload_1 C d_law_505 ?_
      refine jr_aload_0 C d_law_506 ?_
      refine jr_iload_4 C d_law_507 ?_
      refine jr_iconst (v := nI 1) C d_law_509 (by decide) ?_
      refine jr_iaddN C d_law_510 ?_
      refine jr_sld C hX hbl hbA (by omega) (by omega) d_law_511 ?_
      refine jr_aload_0 C d_law_512 ?_
      refine jr_iload_4 C d_law_513 ?_
      refine jr_iconst (v := nI 2) C d_law_515 (by decide) ?_
      refine jr_iaddN C d_law_516 ?_
      refine jr_sld C hX hbl hbA (by omega) (by omega) d_law_517 ?_
      refine jr_aload_0 C d_law_518 ?_
      refine jr_iload_4 C d_law_519 ?_
      refine jr_iconst (v := nI 3) C d_law_521 (by decide) ?_
      refine jr_iaddN C d_law_522 ?_
      refine jr_sld C hX hbl hbA (by omega) (by omega) d_law_523 ?_
      refine jL_X_band C (cX_band l D q k σ a hx _ _ _) ⟨Nat.le_of_ble_eq_true rfl, Nat.le_of_ble_eq_true rfl⟩ (Nat.le_of_ble_eq_true rfl) d_law_524 (fun r1 σ1 g1 => ?_)
      refine jr_aload_2 C d_law_527 ?_
      refine jr_aload_0 C d_law_528 ?_
      refine jr_iload_4 C d_law_529 ?_
      refine jr_iconst (v := nI 1) C d_law_531 (by decide) ?_
      refine jr_iaddN C d_law_532 ?_
      refine jr_sld C hX hbl hbA (by omega) (by omega) d_law_533 ?_
      refine jr_aload_0 C d_law_534 ?_
      refine jr_iload_4 C d_law_535 ?_
      refine jr_iconst (v := nI 2) C d_law_537 (by decide) ?_
      refine jr_iaddN C d_law_538 ?_
      refine jr_sld C hX hbl hbA (by omega) (by omega) d_law_539 ?_
      refine jr_aload_0 C d_law_540 ?_
      refine jr_iload_4 C d_law_541 ?_
      refine jr_iconst (v := nI 3) C d_law_543 (by decide) ?_
      refine jr_iaddN C d_law_544 ?_
      refine jr_sld C hX hbl hbA (by omega) (by omega) d_law_545 ?_
      refine jL_M_band C (cM_band l D q2 k2 τ a R hw hm _ _ _) ⟨Nat.le_of_ble_eq_true rfl, Nat.le_of_ble_eq_true rfl⟩ (Nat.le_of_ble_eq_true rfl) d_law_546 (fun r2 τ1 g2 => ?_)
      refine jr_icmp_eq (tgt := 683) C d_law_549 (by decide) (fun e => ?_) (fun e => ?_)
      · exact next0 a R σ1 τ1 f z5 z6 z7 hw g1.2 g2.2
      · exact absurd (by rw [g1.1, g2.1]) e
    · refine jr_tin (off := 515) (tgt := 554) C d_law_39 (by decide) (by decide) (by decide) (by decide) ?_
      refine jr_aload_1 C d_law_554 ?_
      refine jr_aload_0 C d_law_555 ?_
      refine jr_iload_4 C d_law_556 ?_
      refine jr_iconst (v := nI 1) C d_law_558 (by decide) ?_
      refine jr_iaddN C d_law_559 ?_
      refine jr_sld C hX hbl hbA (by omega) (by omega) d_law_560 ?_
      refine jr_aload_0 C d_law_561 ?_
      refine jr_iload_4 C d_law_562 ?_
      refine jr_iconst (v := nI 2) C d_law_564 (by decide) ?_
      refine jr_iaddN C d_law_565 ?_
      refine jr_sld C hX hbl hbA (by omega) (by omega) d_law_566 ?_
      refine jr_aload_0 C d_law_567 ?_
      refine jr_iload_4 C d_law_568 ?_
      refine jr_iconst (v := nI 3) C d_law_570 (by decide) ?_
      refine jr_iaddN C d_law_571 ?_
      refine jr_sld C hX hbl hbA (by omega) (by omega) d_law_572 ?_
      refine jr_aload_3 C d_law_573 ?_
      refine jL_L_share C hE (cL_share l D q k qo co σ f a hlt hx _ _ _ sa) ⟨Nat.le_of_ble_eq_true rfl, Nat.le_of_ble_eq_true rfl⟩ (by show 17 + n + 1 ≤ 1042; omega) (by show 5616 + 6 * n + 6 ≤ 13814; omega) (Nat.le_of_ble_eq_true rfl) d_law_574 (fun r1 u1 g1 => ?_)
      have C : fx_C (fx_up (xl_M p l e s m b below meth c D (17 + n) (5616 + 6 * n)) 1 6) l room_1 D cl_s (ty_L k k2 co) code (k_X_init :: tb_l) R_L := CC (n + 1) (by omega)
      obtain ⟨σ1, f1⟩ := u1
      refine jr_istore_5 C d_law_577 rfl ?_
      refine jr_aload_2 C d_law_579 ?_
      refine jr_aload_0 C d_law_580 ?_
      refine jr_iload_4 C d_law_581 ?_
      refine jr_iconst (v := nI 1) C d_law_583 (by decide) ?_
      refine jr_iaddN C d_law_584 ?_
      refine jr_sld C hX hbl hbA (by omega) (by omega) d_law_585 ?_
      refine jr_aload_0 C d_law_586 ?_
      refine jr_iload_4 C d_law_587 ?_
      refine jr_iconst (v := nI 2) C d_law_589 (by decide) ?_
      refine jr_iaddN C d_law_590 ?_
      refine jr_sld C hX hbl hbA (by omega) (by omega) d_law_591 ?_
      refine jr_aload_0 C d_law_592 ?_
      refine jr_iload_4 C d_law_593 ?_
      refine jr_iconst (v := nI 3) C d_law_595 (by decide) ?_
      refine jr_iaddN C d_law_596 ?_
      refine jr_sld C hX hbl hbA (by omega) (by omega) d_law_597 ?_
      refine jL_M_share C (cM_share l D q2 k2 τ a R hw hm _ _ _) ⟨Nat.le_of_ble_eq_true rfl, Nat.le_of_ble_eq_true rfl⟩ (Nat.le_of_ble_eq_true rfl) d_law_598 (fun r2 τ1 g2 => ?_)
      refine jr_lstore_6 C d_law_601 rfl ?_
      refine jr_aload_2 C d_law_603 ?_
      refine jL_M_thrown C (cM_thrown l D q2 k2 τ1) ⟨Nat.le_of_ble_eq_true rfl, Nat.le_of_ble_eq_true rfl⟩ (Nat.le_of_ble_eq_true rfl) d_law_604 (fx_p (fun r3 g3 => ?_))
      rw [g3]
      obtain ⟨g1a, g1b⟩ := g1
      obtain ⟨g2a, g2b⟩ := g2
      rcases g1b with ⟨rfl, g1c⟩ | ⟨rfl, g1c⟩
      · rw [g1c] at g2a
        obtain ⟨g4, g5⟩ := g2a
        rw [g5]
        refine jr_iload_5 C d_law_607 ?_
        refine jr_icmp_eq (tgt := 614) C d_law_609 (by decide) (fun e => ?_) (fun e => ?_)
        · refine jr_iload_5 C d_law_614 ?_
          refine jr_if_ne (tgt := 630) C d_law_616 (by decide) (fun e1 => ?_) (fun e1 => ?_)
          · exact absurd nI_0 e1
          · refine jr_aload_3 C d_law_619 ?_
            refine jr_iconst (v := nI 0) C d_law_620 (by decide) ?_
            refine jr_lald C 16 14 rfl rfl (by decide) (by decide) d_law_621 ?_
            refine jr_lload_6 C d_law_622 ?_
            refine jr_lcmp C d_law_624 ?_
            refine jr_if_eq (tgt := 630) C d_law_625 (by decide) (fun e2 => ?_) (fun e2 => ?_)
            · refine jr_goto (tgt := 683) C d_law_630 (by decide) ?_
              exact next1 a R σ1 τ1 f1 _ _ _ hw g1a g2b
            · exact absurd ((lg_cmp_eq _ _).mpr g4.symm) e2
        · exact absurd rfl e
      · rw [g1c] at g2a
        have g5 : m_thr τ1 = nI 1 := g2a
        rw [g5]
        refine jr_iload_5 C d_law_607 ?_
        refine jr_icmp_eq (tgt := 614) C d_law_609 (by decide) (fun e => ?_) (fun e => ?_)
        · refine jr_iload_5 C d_law_614 ?_
          refine jr_if_ne (tgt := 630) C d_law_616 (by decide) (fun e1 => ?_) (fun e1 => ?_)
          · refine jr_goto (tgt := 683) C d_law_630 (by decide) ?_
            exact next1 a R σ1 τ1 f1 _ _ _ hw g1a g2b
          · exact absurd e1 (by decide)
        · exact absurd rfl e
    · refine jr_tin (off := 594) (tgt := 633) C d_law_39 (by decide) (by decide) (by decide) (by decide) ?_
      refine jr_aload_1 C d_law_633 ?_
      refine jr_aload_0 C d_law_634 ?_
      refine jr_iload_4 C d_law_635 ?_
      refine jr_iconst (v := nI 1) C d_law_637 (by decide) ?_
      refine jr_iaddN C d_law_638 ?_
      refine jr_sld C hX hbl hbA (by omega) (by omega) d_law_639 ?_
      refine jL_X_missing C (cX_missing l D q k σ a hx _) ⟨Nat.le_of_ble_eq_true rfl, Nat.le_of_ble_eq_true rfl⟩ (Nat.le_of_ble_eq_true rfl) d_law_640 (fun r1 σ1 g1 => ?_)
      refine jr_aload_2 C d_law_643 ?_
      refine jr_aload_0 C d_law_644 ?_
      refine jr_iload_4 C d_law_645 ?_
      refine jr_iconst (v := nI 1) C d_law_647 (by decide) ?_
      refine jr_iaddN C d_law_648 ?_
      refine jr_sld C hX hbl hbA (by omega) (by omega) d_law_649 ?_
      refine jL_M_missing C (cM_missing l D q2 k2 τ a R hw hm _) ⟨Nat.le_of_ble_eq_true rfl, Nat.le_of_ble_eq_true rfl⟩ (Nat.le_of_ble_eq_true rfl) d_law_650 (fun r2 τ1 g2 => ?_)
      refine jr_icmp_eq (tgt := 683) C d_law_653 (by decide) (fun e => ?_) (fun e => ?_)
      · exact next0 a R σ1 τ1 f z5 z6 z7 hw g1.2 g2.2
      · exact absurd (by rw [g1.1, g2.1]) e
    · refine jr_tin (off := 619) (tgt := 658) C d_law_39 (by decide) (by decide) (by decide) (by decide) ?_
      refine jr_aload_1 C d_law_658 ?_
      refine jr_aload_0 C d_law_659 ?_
      refine jr_iload_4 C d_law_660 ?_
      refine jr_iconst (v := nI 1) C d_law_662 (by decide) ?_
      refine jr_iaddN C d_law_663 ?_
      refine jr_sld C hX hbl hbA (by omega) (by omega) d_law_664 ?_
      refine jL_X_left C (cX_left l D q k σ a hw hx _) ⟨Nat.le_of_ble_eq_true rfl, Nat.le_of_ble_eq_true rfl⟩ (Nat.le_of_ble_eq_true rfl) d_law_665 (fun r1 σ1 g1 => ?_)
      refine jr_aload_2 C d_law_668 ?_
      refine jr_aload_0 C d_law_669 ?_
      refine jr_iload_4 C d_law_670 ?_
      refine jr_iconst (v := nI 1) C d_law_672 (by decide) ?_
      refine jr_iaddN C d_law_673 ?_
      refine jr_sld C hX hbl hbA (by omega) (by omega) d_law_674 ?_
      refine jL_M_left C (cM_left l D q2 k2 τ a R hw hm _) ⟨Nat.le_of_ble_eq_true rfl, Nat.le_of_ble_eq_true rfl⟩ (Nat.le_of_ble_eq_true rfl) d_law_675 (fun r2 τ1 g2 => ?_)
      refine jr_icmp_eq (tgt := 683) C d_law_678 (by decide) (fun e => ?_) (fun e => ?_)
      · exact next0 a R σ1 τ1 f z5 z6 z7 hw g1.2 g2.2
      · exact absurd (fn_left g1.1 g2.1) e
    · refine jr_tout (tgt := 683) C d_law_39 (Or.inr (by rw [nI_toInt (by omega)]; omega)) (by decide) ?_
      exact next0 a R σ τ f z5 z6 z7 hw hx hm
