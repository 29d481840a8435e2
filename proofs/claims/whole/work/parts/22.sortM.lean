section SM
variable (l : Launch) (D : va_G) (q : Nat → Nat) (k : Nat → ClassId) (τ : sm_T) (a : ab_T) (R : Nat → Nat × Nat × Nat)
theorem cM_sort (hw : a_wf a) (hm : rm_r a R τ) : fx_MV l D cl_s (ty_M k) (w_M q k) y_M_sort (k_M_sort :: tb_l) rm_M_sort [.ref (q 0)] τ (fun u => ∃ A O L m, u = ms_man (ms_lft (ms_one (ms_any τ A) O) L) m ∧ (∀ r, 1 ≤ r → r ≤ a_n a → L r = b01 (bx_b (a_left a r))) ∧ m = nI (sp_many a)) := by
  have hn := hw.1
  have hv4 := hw.2.1
  obtain ⟨m1, m2, m3, m4, m5, m6, m7⟩ := id hm
  have h0 : bx_b (a_left a 0) = false := bx_neg.mpr (fun h => by have := (hw.2.2.2.1 0 h.1).1; omega)
  refine fx_enterV (by decide +kernel) [some (.ref (q 0)), none, none, none] rfl (Nat.le_of_ble_eq_true rfl) (Nat.le_of_ble_eq_true rfl) (fun X C hR => ?_)
  -- the last stretch: who is left
  have PD : ∀ (A O : Nat → Int32) (z1 z2 z3 : Option Value), (∀ g, g < 6 → A g = b01 (bx_b (∃ v, v < 100 ∧ a_cho a g v = true))) → (∀ r f, 1 ≤ r → r ≤ a_n a → f < 6 → O (6 * r + f) = b01 (bx_b (∃ u, u < 100 ∧ a_cho a f u = true ∧ a_has a r f u))) → fx_J X (w_M q k (ms_one (ms_any τ A) O)) 207 [some (.ref (q 0)), z1, z2, z3] [] := by
    intro A O z1 z2 z3 hA hO
    refine jr_aload_0 C d_M_sort_207 ?_
    refine jr_iconst (v := nI 0) C d_M_sort_208 (by decide) ?_
    refine pM_many C d_M_sort_209 ?_
    refine jr_iconst (v := nI 1) C d_M_sort_212 (by decide) ?_
    refine jr_istore_1 C d_M_sort_213 rfl ?_
    have L1 := lp_up (P := fun r => 1 ≤ r → ∀ (L : Nat → Int32) (z2 z3 : Option Value), (∀ s, 1 ≤ s → s < r → L s = b01 (bx_b (a_left a s))) → fx_J X (w_M q k (ms_man (ms_lft (ms_one (ms_any τ A) O) L) (nI (ct_n (fun s => bx_b (a_left a s)) r)))) 214 [some (.ref (q 0)), some (.int (nI r)), z2, z3] []) (a_n a + 1) (fun r hr ih hr1 L z2 z3 hL => ?_)
    · have := L1 1 (by omega) (Nat.le_refl 1) (m_lft τ) z2 z3 (fun s h1 h2 => by omega)
      rw [show ct_n (fun s => bx_b (a_left a s)) 1 = 0 from ct_sf h0] at this
      exact this
    · refine jr_iload_1 C d_M_sort_214 ?_
      refine jr_aload_0 C d_M_sort_215 ?_
      refine gM_records C d_M_sort_216 ?_
      refine jr_eqi m1 ?_
      refine jr_N_gt (tgt := 320) C d_M_sort_219 (by decide) (by omega) (by omega) (fun h => ?_) (fun h => ?_)
      · exact hR _ _ _ d_M_sort_320 ⟨A, O, L, _, rfl, fun s h1 h2 => hL s h1 (by omega), congrArg nI (by
          rw [show r = a_n a + 1 by omega]
          exact (ct_ext (by omega) (fun i h1 h2 => bx_neg.mpr (fun g => by have := (hw.2.2.2.1 i g.1).2; omega))).symm)⟩
      · have hr2 : r ≤ a_n a := h
        refine jr_aload_0 C d_M_sort_222 ?_
        refine gM_left C d_M_sort_223 ?_
        refine jr_iload_1 C d_M_sort_226 ?_
        refine jr_aload_0 C d_M_sort_227 ?_
        refine gM_hits C d_M_sort_228 ?_
        refine jr_iload_1 C d_M_sort_231 ?_
        refine aM_hits C (by omega) d_M_sort_232 ?_
        refine jr_eqi (m7 r hr1 (by omega)) ?_
        refine sM_left C (by omega) (b01_or _) d_M_sort_233 ?_
        refine jr_iconst (v := nI 0) C d_M_sort_234 (by decide) ?_
        refine jr_istore_2 C d_M_sort_235 rfl ?_
        have L2 := lp_up (P := fun f => ∀ L2 : Nat → Int32, (∀ s, s ≠ r → L2 s = L s) → L2 r = b01 (bx_b (a_hit a r = true ∧ ∀ g, g < f → (∃ v, v < 100 ∧ a_cho a g v = true) → ∃ v, v < 100 ∧ a_cho a g v = true ∧ a_has a r g v)) → fx_J X (w_M q k (ms_man (ms_lft (ms_one (ms_any τ A) O) L2) (nI (ct_n (fun s => bx_b (a_left a s)) r)))) 236 [some (.ref (q 0)), some (.int (nI r)), some (.int (nI f)), z3] []) 6 (fun f hf ih2 L2 e1 e2 => ?_)
        · refine L2 0 (by omega) _ (fun s hs => pk_un hs) ?_
          rw [show upd L r (b01 (a_hit a r)) r = b01 (a_hit a r) from pk_us]
          congr 1
          exact (bx_eq ⟨fun g => g.1, fun g => ⟨g, fun g hg => by omega⟩⟩).symm
        · refine jr_iload_2 C d_M_sort_236 ?_
          refine jr_bipush (v := nI 6) C d_M_sort_237 (by decide) ?_
          refine jr_N_ge (tgt := 291) C d_M_sort_239 (by decide) (by omega) (by omega) (fun h2 => ?_) (fun h2 => ?_)
          · have e6 : f = 6 := by omega
            subst e6
            have e3 : L2 r = b01 (bx_b (a_left a r)) := e2
            have go : ∀ b, ct_n (fun s => bx_b (a_left a s)) r + b = ct_n (fun s => bx_b (a_left a s)) (r + 1) → fx_J X (w_M q k (ms_man (ms_lft (ms_one (ms_any τ A) O) L2) (nI (ct_n (fun s => bx_b (a_left a s)) r)))) 310 [some (.ref (q 0)), some (.int (nI r)), some (.int (nI 6)), z3] [.int (nI b), .int (nI (ct_n (fun s => bx_b (a_left a s)) r)), .ref (q 0)] := by
              intro b hb
              refine jr_iaddN C d_M_sort_310 ?_
              refine pM_many C d_M_sort_311 ?_
              refine jr_incN_1 C d_M_sort_314 rfl ?_
              refine jr_goto (tgt := 214) C d_M_sort_317 (by decide) ?_
              rw [hb]
              refine ih (by omega) (by omega) L2 _ _ (fun s h1 h2 => ?_)
              by_cases e : s = r
              · rw [e]; exact e3
              · rw [e1 s e]; exact hL s h1 (by omega)
            refine jr_aload_0 C d_M_sort_291 ?_
            refine jr_dup C d_M_sort_292 rfl ?_
            refine gM_many C d_M_sort_293 ?_
            refine jr_aload_0 C d_M_sort_296 ?_
            refine gM_left C d_M_sort_297 ?_
            refine jr_iload_1 C d_M_sort_300 ?_
            refine aM_left C (by omega) d_M_sort_301 ?_
            refine jr_eqi e3 ?_
            refine jr_if_eq (tgt := 309) C d_M_sort_302 (by decide) (fun h3 => ?_) (fun h3 => ?_)
            · rw [b01_eq] at h3
              refine jr_iconst (v := nI 0) C d_M_sort_309 (by decide) ?_
              exact go 0 (ct_sf h3).symm
            · rw [b01_ne] at h3
              refine jr_iconst (v := nI 1) C d_M_sort_305 (by decide) ?_
              refine jr_goto (tgt := 310) C d_M_sort_306 (by decide) ?_
              exact go 1 (ct_st (p := fun s => bx_b (a_left a s)) h3).symm
          · have fin : ∀ b : Bool, (b = true ↔ (a_hit a r = true ∧ ∀ g, g < f + 1 → (∃ v, v < 100 ∧ a_cho a g v = true) → ∃ v, v < 100 ∧ a_cho a g v = true ∧ a_has a r g v)) → fx_J X (w_M q k (ms_man (ms_lft (ms_one (ms_any τ A) O) L2) (nI (ct_n (fun s => bx_b (a_left a s)) r)))) 284 [some (.ref (q 0)), some (.int (nI r)), some (.int (nI f)), z3] [.int (b01 b), .int (nI r), .ref (q 9)] := by
              intro b hb
              refine sM_left C (by omega) (b01_or _) d_M_sort_284 ?_
              refine jr_incN_2 C d_M_sort_285 rfl ?_
              refine jr_goto (tgt := 236) C d_M_sort_288 (by decide) ?_
              refine ih2 h2 (upd L2 r (b01 b)) (fun s hs => ?_) ?_
              · rw [← e1 s hs]; exact pk_un hs
              · rw [show upd L2 r (b01 b) r = b01 b from pk_us, bx_eq hb.symm]
            refine jr_aload_0 C d_M_sort_242 ?_
            refine gM_left C d_M_sort_243 ?_
            refine jr_iload_1 C d_M_sort_246 ?_
            refine jr_aload_0 C d_M_sort_247 ?_
            refine gM_left C d_M_sort_248 ?_
            refine jr_iload_1 C d_M_sort_251 ?_
            refine aM_left C (by omega) d_M_sort_252 ?_
            refine jr_eqi e2 ?_
            refine jr_if_eq (tgt := 283) C d_M_sort_253 (by decide) (fun h3 => ?_) (fun h3 => ?_)
            · rw [b01_eq, bx_neg] at h3
              refine jr_iconst (v := nI 0) C d_M_sort_283 (by decide) ?_
              exact fin false ⟨fun g => absurd g (by decide), fun g => absurd ⟨g.1, fun g2 hg2 => g.2 g2 (by omega)⟩ h3⟩
            · rw [b01_ne, bx_iff] at h3
              refine jr_aload_0 C d_M_sort_256 ?_
              refine gM_any C d_M_sort_257 ?_
              refine jr_iload_2 C d_M_sort_260 ?_
              refine aM_any C (by omega) d_M_sort_261 ?_
              refine jr_eqi (hA f h2) ?_
              refine jr_if_eq (tgt := 279) C d_M_sort_262 (by decide) (fun h4 => ?_) (fun h4 => ?_)
              · rw [b01_eq, bx_neg] at h4
                refine jr_iconst (v := nI 1) C d_M_sort_279 (by decide) ?_
                refine jr_goto (tgt := 284) C d_M_sort_280 (by decide) ?_
                refine fin true ⟨fun _ => ⟨h3.1, fun g hg => ?_⟩, fun _ => rfl⟩
                by_cases e : g = f
                · rw [e]; exact fun q => absurd q h4
                · exact h3.2 g (by omega)
              · rw [b01_ne, bx_iff] at h4
                refine jr_aload_0 C d_M_sort_265 ?_
                refine gM_one C d_M_sort_266 ?_
                refine jr_bipush (v := nI 6) C d_M_sort_269 (by decide) ?_
                refine jr_iload_1 C d_M_sort_271 ?_
                refine jr_imulN C d_M_sort_272 ?_
                refine jr_iload_2 C d_M_sort_273 ?_
                refine jr_iaddN C d_M_sort_274 ?_
                refine aM_one C (by omega) d_M_sort_275 ?_
                refine jr_eqi (hO r f hr1 hr2 h2) ?_
                refine jr_if_eq (tgt := 283) C d_M_sort_276 (by decide) (fun h5 => ?_) (fun h5 => ?_)
                · rw [b01_eq, bx_neg] at h5
                  refine jr_iconst (v := nI 0) C d_M_sort_283 (by decide) ?_
                  exact fin false ⟨fun g => absurd g (by decide), fun g => absurd (g.2 f (by omega) h4) h5⟩
                · rw [b01_ne, bx_iff] at h5
                  refine jr_iconst (v := nI 1) C d_M_sort_279 (by decide) ?_
                  refine jr_goto (tgt := 284) C d_M_sort_280 (by decide) ?_
                  refine fin true ⟨fun _ => ⟨h3.1, fun g hg => ?_⟩, fun _ => rfl⟩
                  by_cases e : g = f
                  · rw [e]; exact fun _ => h5
                  · exact h3.2 g (by omega)
  -- the rows
  have PC : ∀ A : Nat → Int32, (∀ g, g < 6 → A g = b01 (bx_b (∃ v, v < 100 ∧ a_cho a g v = true))) → ∀ i, i ≤ a_v a → ∀ (O : Nat → Int32) (z2 z3 : Option Value), (∀ r f, 1 ≤ r → r ≤ a_n a → f < 6 → O (6 * r + f) = b01 (bx_b (∃ j, j < i ∧ (R j).1 = r ∧ (R j).2.1 = f ∧ ∃ u, u < 100 ∧ a_cho a f u = true ∧ ab_o (a_par a f) (R j).2.2 u))) → fx_J X (w_M q k (ms_one (ms_any τ A) O)) 93 [some (.ref (q 0)), some (.int (nI i)), z2, z3] [] := by
    intro A hA
    refine lp_up (a_v a) (fun i hi ih O z2 z3 hO => ?_)
    refine jr_iload_1 C d_M_sort_93 ?_
    refine jr_aload_0 C d_M_sort_94 ?_
    refine gM_values C d_M_sort_95 ?_
    refine jr_eqi m2 ?_
    refine jr_N_ge (tgt := 207) C d_M_sort_98 (by decide) (by omega) (by omega) (fun h => ?_) (fun h => ?_)
    · refine PD A O _ _ _ hA (fun r f hr1 hr2 hf => ?_)
      rw [hO r f hr1 hr2 hf]
      congr 1
      refine bx_congr ⟨fun ⟨j, g1, g2, g3, u, g4, g5, g6⟩ => ⟨u, g4, g5, (pm_hv hm r f u).mpr ⟨j, by omega, g2, g3, g6⟩⟩, fun ⟨u, g4, g5, g6⟩ => ?_⟩
      obtain ⟨j, g1, g2, g3, g7⟩ := (pm_hv hm r f u).mp g6
      exact ⟨j, by omega, g2, g3, u, g4, g5, g7⟩
    · obtain ⟨r1, r2, r3, r4, r5, r6, r7⟩ := m3 i h
      obtain ⟨rk, fk, vk, eR⟩ : ∃ rk fk vk, R i = (rk, fk, vk) := ⟨_, _, _, rfl⟩
      rw [eR] at r1 r2 r3 r4 r5 r6 r7
      dsimp only at r1 r2 r3 r4 r5 r6 r7
      obtain ⟨hp1, hp2, ρ, hρ⟩ := hw.2.2.2.2 fk
      refine jr_aload_0 C d_M_sort_101 ?_
      refine gM_rows C d_M_sort_102 ?_
      refine jr_iconst (v := nI 3) C d_M_sort_105 (by decide) ?_
      refine jr_iload_1 C d_M_sort_106 ?_
      refine jr_imulN C d_M_sort_107 ?_
      refine jr_iconst (v := nI 1) C d_M_sort_108 (by decide) ?_
      refine jr_iaddN C d_M_sort_109 ?_
      refine aM_rows C (by omega) d_M_sort_110 ?_
      refine jr_eqi r6 ?_
      refine jr_istore_2 C d_M_sort_111 rfl ?_
      refine jr_aload_0 C d_M_sort_112 ?_
      refine gM_rows C d_M_sort_113 ?_
      refine jr_iconst (v := nI 3) C d_M_sort_116 (by decide) ?_
      refine jr_iload_1 C d_M_sort_117 ?_
      refine jr_imulN C d_M_sort_118 ?_
      refine jr_iconst (v := nI 2) C d_M_sort_119 (by decide) ?_
      refine jr_iaddN C d_M_sort_120 ?_
      refine aM_rows C (by omega) d_M_sort_121 ?_
      refine jr_eqi r7 ?_
      refine jr_istore_3 C d_M_sort_122 rfl ?_
      have L := lp_ms (P := fun w => ∀ (O2 : Nat → Int32) (b : Bool), (∀ i, i ≠ 6 * rk + fk → O2 i = O i) → O2 (6 * rk + fk) = b01 b → ((b = true ∨ ∃ u, u < 100 ∧ a_cho a fk u = true ∧ ab_o (a_par a fk) w u) ↔ ∃ j, j < i + 1 ∧ (R j).1 = rk ∧ (R j).2.1 = fk ∧ ∃ u, u < 100 ∧ a_cho a fk u = true ∧ ab_o (a_par a fk) (R j).2.2 u) → fx_J X (w_M q k (ms_one (ms_any τ A) O2)) 123 [some (.ref (q 0)), some (.int (nI i)), some (.int (nI fk)), some (.int (en_p w))] []) (fun w => if w < 100 then ρ w + 1 else 0) (fun w ihw O2 b e1 e2 e3 => ?_)
      · have := L vk O _ (fun _ _ => rfl) (hO rk fk r1 r2 r3) (by
          rw [bx_iff]
          constructor
          · rintro (⟨j, g1, g⟩ | g)
            · exact ⟨j, by omega, g⟩
            · exact ⟨i, by omega, by rw [eR], by rw [eR], by rw [eR]; exact g⟩
          · rintro ⟨j, g1, g2, g3, g4⟩
            by_cases e : j = i
            · rw [e, eR] at g4
              exact Or.inr g4
            · exact Or.inl ⟨j, by omega, g2, g3, g4⟩)
        rw [en_in r4] at this
        exact this
      · refine jr_iload_3 C d_M_sort_123 ?_
        refine jr_iconst (v := -1) C d_M_sort_124 (by decide) ?_
        refine jr_icmp_eq (tgt := 201) C d_M_sort_125 (by decide) (fun h2 => ?_) (fun h2 => ?_)
        · have hw100 := en_m1.mp h2
          refine jr_incN_1 C d_M_sort_201 rfl ?_
          refine jr_goto (tgt := 93) C d_M_sort_204 (by decide) ?_
          refine ih h O2 _ _ (fun r f hr1 hr2 hf => ?_)
          by_cases e : r = rk ∧ f = fk
          · obtain ⟨rfl, rfl⟩ := e
            rw [e2]
            congr 1
            refine (bx_eq ?_).symm
            rw [← e3]
            constructor
            · rintro (g | ⟨u, g1, g2, g3⟩)
              · exact g
              · exact absurd g3 (ab_out hp2 hw100 g1)
            · exact Or.inl
          · rw [e1 _ (by omega), hO r f hr1 hr2 hf]
            congr 1
            refine bx_congr ⟨fun ⟨j, g1, g⟩ => ⟨j, by omega, g⟩, fun ⟨j, g1, g2, g3, g4⟩ => ?_⟩
            by_cases ej : j = i
            · rw [ej, eR] at g2 g3
              exact absurd ⟨g2.symm, g3.symm⟩ e
            · exact ⟨j, by omega, g2, g3, g4⟩
        · have hw100 : w < 100 := by
            rcases Nat.lt_or_ge w 100 with g | g
            · exact g
            · exact absurd (en_no g) h2
          have fin : ∀ b2 : Bool, (b2 = true ↔ b = true ∨ a_cho a fk w = true) → fx_J X (w_M q k (ms_one (ms_any τ A) O2)) 185 [some (.ref (q 0)), some (.int (nI i)), some (.int (nI fk)), some (.int (en_p w))] [.int (b01 b2), .int (nI (6 * rk + fk)), .ref (q 8)] := by
            intro b2 hb2
            rw [en_in hw100]
            refine sM_one C (by omega) (b01_or _) d_M_sort_185 ?_
            refine jr_aload_0 C d_M_sort_186 ?_
            refine gM_broader C d_M_sort_187 ?_
            refine jr_bipush (v := nI 100) C d_M_sort_190 (by decide) ?_
            refine jr_iload_2 C d_M_sort_192 ?_
            refine jr_imulN C d_M_sort_193 ?_
            refine jr_iload_3 C d_M_sort_194 ?_
            refine jr_iaddN C d_M_sort_195 ?_
            refine aM_broader C (by omega) d_M_sort_196 ?_
            refine jr_eqi (m5 fk w r3 hw100) ?_
            refine jr_istore_3 C d_M_sort_197 rfl ?_
            refine jr_goto (tgt := 123) C d_M_sort_198 (by decide) ?_
            refine ihw (a_par a fk w) ?_ _ b2 (fun s hs => ?_) pk_us ?_
            · try dsimp only
              rw [if_pos hw100]
              split
              · next g => have := hρ w hw100 g; omega
              · omega
            · rw [← e1 s hs]; exact pk_un hs
            · rw [← e3, hb2]
              constructor
              · rintro ((g | g) | ⟨u, g1, g2, g3⟩)
                · exact Or.inl g
                · exact Or.inr ⟨w, hw100, g, ab_rf _ w⟩
                · exact Or.inr ⟨u, g1, g2, ab_up g3⟩
              · rintro (g | ⟨u, g1, g2, g3⟩)
                · exact Or.inl (Or.inl g)
                · rcases ab_cs.mp g3 with g4 | g4
                  · subst g4
                    exact Or.inl (Or.inr g2)
                  · exact Or.inr ⟨u, g1, g2, g4⟩
          refine jr_aload_0 C d_M_sort_128 ?_
          refine gM_one C d_M_sort_129 ?_
          refine jr_bipush (v := nI 6) C d_M_sort_132 (by decide) ?_
          refine jr_aload_0 C d_M_sort_134 ?_
          refine gM_rows C d_M_sort_135 ?_
          refine jr_iconst (v := nI 3) C d_M_sort_138 (by decide) ?_
          refine jr_iload_1 C d_M_sort_139 ?_
          refine jr_imulN C d_M_sort_140 ?_
          refine aM_rows C (by omega) d_M_sort_141 ?_
          refine jr_eqi r5 ?_
          refine jr_imulN C d_M_sort_142 ?_
          refine jr_iload_2 C d_M_sort_143 ?_
          refine jr_iaddN C d_M_sort_144 ?_
          refine jr_aload_0 C d_M_sort_145 ?_
          refine gM_one C d_M_sort_146 ?_
          refine jr_bipush (v := nI 6) C d_M_sort_149 (by decide) ?_
          refine jr_aload_0 C d_M_sort_151 ?_
          refine gM_rows C d_M_sort_152 ?_
          refine jr_iconst (v := nI 3) C d_M_sort_155 (by decide) ?_
          refine jr_iload_1 C d_M_sort_156 ?_
          refine jr_imulN C d_M_sort_157 ?_
          refine aM_rows C (by omega) d_M_sort_158 ?_
          refine jr_eqi r5 ?_
          refine jr_imulN C d_M_sort_159 ?_
          refine jr_iload_2 C d_M_sort_160 ?_
          refine jr_iaddN C d_M_sort_161 ?_
          refine aM_one C (by omega) d_M_sort_162 ?_
          refine jr_eqi e2 ?_
          refine jr_if_ne (tgt := 180) C d_M_sort_163 (by decide) (fun h3 => ?_) (fun h3 => ?_)
          · rw [b01_ne] at h3
            refine jr_iconst (v := nI 1) C d_M_sort_180 (by decide) ?_
            refine jr_goto (tgt := 185) C d_M_sort_181 (by decide) ?_
            exact fin true ⟨fun _ => Or.inl h3, fun _ => rfl⟩
          · rw [b01_eq] at h3
            rw [en_in hw100]
            refine jr_aload_0 C d_M_sort_166 ?_
            refine gM_chosen C d_M_sort_167 ?_
            refine jr_bipush (v := nI 100) C d_M_sort_170 (by decide) ?_
            refine jr_iload_2 C d_M_sort_172 ?_
            refine jr_imulN C d_M_sort_173 ?_
            refine jr_iload_3 C d_M_sort_174 ?_
            refine jr_iaddN C d_M_sort_175 ?_
            refine aM_chosen C (by omega) d_M_sort_176 ?_
            refine jr_eqi (m6 fk w r3 hw100) ?_
            rw [← en_in hw100]
            refine jr_if_eq (tgt := 184) C d_M_sort_177 (by decide) (fun h4 => ?_) (fun h4 => ?_)
            · rw [b01_eq] at h4
              refine jr_iconst (v := nI 0) C d_M_sort_184 (by decide) ?_
              exact fin false (by rw [h3, h4]; simp)
            · rw [b01_ne] at h4
              refine jr_iconst (v := nI 1) C d_M_sort_180 (by decide) ?_
              refine jr_goto (tgt := 185) C d_M_sort_181 (by decide) ?_
              exact fin true ⟨fun _ => Or.inr h4, fun _ => rfl⟩
  -- no mark yet
  have PB : ∀ (A : Nat → Int32) (z1 z2 z3 : Option Value), (∀ g, g < 6 → A g = b01 (bx_b (∃ v, v < 100 ∧ a_cho a g v = true))) → fx_J X (w_M q k (ms_any τ A)) 69 [some (.ref (q 0)), z1, z2, z3] [] := by
    intro A z1 z2 z3 hA
    refine jr_iconst (v := nI 0) C d_M_sort_69 (by decide) ?_
    refine jr_istore_1 C d_M_sort_70 rfl ?_
    have L := lp_up (P := fun i => ∀ O : Nat → Int32, (∀ s, s < i → O s = nI 0) → fx_J X (w_M q k (ms_one (ms_any τ A) O)) 71 [some (.ref (q 0)), some (.int (nI i)), z2, z3] []) 366 (fun i hi ih O hO => ?_)
    · exact L 0 (by omega) (m_one τ) (fun s hs => by omega)
    · refine jr_iload_1 C d_M_sort_71 ?_
      refine jr_sipush (v := nI 366) C d_M_sort_72 (by decide) ?_
      refine jr_N_ge (tgt := 91) C d_M_sort_75 (by decide) (by omega) (by omega) (fun h => ?_) (fun h => ?_)
      · refine jr_iconst (v := nI 0) C d_M_sort_91 (by decide) ?_
        refine jr_istore_1 C d_M_sort_92 rfl ?_
        refine PC A hA 0 (by omega) O _ _ (fun r f h1 h2 h3 => ?_)
        rw [hO _ (by omega), bx_neg.mpr (fun ⟨j, g, _⟩ => by omega)]
        rfl
      · refine jr_aload_0 C d_M_sort_78 ?_
        refine gM_one C d_M_sort_79 ?_
        refine jr_iload_1 C d_M_sort_82 ?_
        refine jr_iconst (v := nI 0) C d_M_sort_83 (by decide) ?_
        refine sM_one C (by omega) (Or.inl rfl) d_M_sort_84 ?_
        refine jr_incN_1 C d_M_sort_85 rfl ?_
        refine jr_goto (tgt := 71) C d_M_sort_88 (by decide) ?_
        refine ih h _ (fun s hs => ?_)
        by_cases e : s = i
        · rw [e]; exact pk_us
        · rw [show upd O i (nI 0) s = O s from pk_un e]; exact hO s (by omega)
  -- is anything chosen
  refine jr_iconst (v := nI 0) C d_M_sort_0 (by decide) ?_
  refine jr_istore_1 C d_M_sort_1 rfl ?_
  have LA := lp_up (P := fun f => ∀ (A : Nat → Int32) (z2 z3 : Option Value), (∀ g, g < f → A g = b01 (bx_b (∃ v, v < 100 ∧ a_cho a g v = true))) → fx_J X (w_M q k (ms_any τ A)) 2 [some (.ref (q 0)), some (.int (nI f)), z2, z3] []) 6 (fun f hf ih A z2 z3 hA => ?_)
  · exact LA 0 (by omega) (m_any τ) _ _ (fun g hg => by omega)
  · refine jr_iload_1 C d_M_sort_2 ?_
    refine jr_bipush (v := nI 6) C d_M_sort_3 (by decide) ?_
    refine jr_N_ge (tgt := 69) C d_M_sort_5 (by decide) (by omega) (by omega) (fun h => ?_) (fun h => ?_)
    · exact PB A _ _ _ (fun g hg => hA g (by omega))
    · refine jr_aload_0 C d_M_sort_8 ?_
      refine gM_any C d_M_sort_9 ?_
      refine jr_iload_1 C d_M_sort_12 ?_
      refine jr_iconst (v := nI 0) C d_M_sort_13 (by decide) ?_
      refine sM_any C (by omega) (Or.inl rfl) d_M_sort_14 ?_
      refine jr_iconst (v := nI 0) C d_M_sort_15 (by decide) ?_
      refine jr_istore_2 C d_M_sort_16 rfl ?_
      have LV := lp_up (P := fun v => ∀ (A2 : Nat → Int32), (∀ g, g ≠ f → A2 g = A g) → A2 f = b01 (bx_b (∃ w, w < v ∧ a_cho a f w = true)) → fx_J X (w_M q k (ms_any τ A2)) 17 [some (.ref (q 0)), some (.int (nI f)), some (.int (nI v)), z3] []) 100 (fun v hv ih2 A2 e1 e2 => ?_)
      · refine LV 0 (by omega) _ (fun g hg => pk_un hg) ?_
        rw [bx_neg.mpr (fun ⟨w, hw, _⟩ => by omega)]
        exact pk_us
      · refine jr_iload_2 C d_M_sort_17 ?_
        refine jr_bipush (v := nI 100) C d_M_sort_18 (by decide) ?_
        refine jr_N_ge (tgt := 63) C d_M_sort_20 (by decide) (by omega) (by omega) (fun h2 => ?_) (fun h2 => ?_)
        · refine jr_incN_1 C d_M_sort_63 rfl ?_
          refine jr_goto (tgt := 2) C d_M_sort_66 (by decide) ?_
          refine ih h A2 _ _ (fun g hg => ?_)
          by_cases e : g = f
          · rw [e, e2, show v = 100 by omega]
          · rw [e1 g e]; exact hA g (by omega)
        · have fin : ∀ b : Bool, (b = true ↔ ∃ w, w < v + 1 ∧ a_cho a f w = true) → fx_J X (w_M q k (ms_any τ A2)) 56 [some (.ref (q 0)), some (.int (nI f)), some (.int (nI v)), z3] [.int (b01 b), .int (nI f), .ref (q 7)] := by
            intro b hb
            refine sM_any C (by omega) (b01_or _) d_M_sort_56 ?_
            refine jr_incN_2 C d_M_sort_57 rfl ?_
            refine jr_goto (tgt := 17) C d_M_sort_60 (by decide) ?_
            refine ih2 h2 _ (fun g hg => ?_) ?_
            · rw [← e1 g hg]; exact pk_un hg
            · rw [bx_eq hb.symm]; exact pk_us
          refine jr_aload_0 C d_M_sort_23 ?_
          refine gM_any C d_M_sort_24 ?_
          refine jr_iload_1 C d_M_sort_27 ?_
          refine jr_aload_0 C d_M_sort_28 ?_
          refine gM_any C d_M_sort_29 ?_
          refine jr_iload_1 C d_M_sort_32 ?_
          refine aM_any C (by omega) d_M_sort_33 ?_
          refine jr_eqi e2 ?_
          refine jr_if_ne (tgt := 51) C d_M_sort_34 (by decide) (fun h3 => ?_) (fun h3 => ?_)
          · rw [b01_ne, bx_iff] at h3
            refine jr_iconst (v := nI 1) C d_M_sort_51 (by decide) ?_
            refine jr_goto (tgt := 56) C d_M_sort_52 (by decide) ?_
            obtain ⟨w, g1, g2⟩ := h3
            exact fin true ⟨fun _ => ⟨w, by omega, g2⟩, fun _ => rfl⟩
          · rw [b01_eq, bx_neg] at h3
            refine jr_aload_0 C d_M_sort_37 ?_
            refine gM_chosen C d_M_sort_38 ?_
            refine jr_bipush (v := nI 100) C d_M_sort_41 (by decide) ?_
            refine jr_iload_1 C d_M_sort_43 ?_
            refine jr_imulN C d_M_sort_44 ?_
            refine jr_iload_2 C d_M_sort_45 ?_
            refine jr_iaddN C d_M_sort_46 ?_
            refine aM_chosen C (by omega) d_M_sort_47 ?_
            refine jr_eqi (m6 f v h h2) ?_
            refine jr_if_eq (tgt := 55) C d_M_sort_48 (by decide) (fun h4 => ?_) (fun h4 => ?_)
            · rw [b01_eq] at h4
              refine jr_iconst (v := nI 0) C d_M_sort_55 (by decide) ?_
              refine fin false ⟨fun g => absurd g (by decide), fun ⟨w, g1, g2⟩ => ?_⟩
              by_cases e : w = v
              · rw [e, h4] at g2
                exact absurd g2 (by decide)
              · exact absurd ⟨w, by omega, g2⟩ h3
            · rw [b01_ne] at h4
              refine jr_iconst (v := nI 1) C d_M_sort_51 (by decide) ?_
              refine jr_goto (tgt := 56) C d_M_sort_52 (by decide) ?_
              exact fin true ⟨fun _ => ⟨v, by omega, h4⟩, fun _ => rfl⟩
end SM
