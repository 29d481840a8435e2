theorem rc_lt {x : Int32} {n : Nat} (hn : n < 2 ^ 31) (h : x < nI 1) : ¬ ∃ j, 1 ≤ j ∧ j ≤ n ∧ x = nI j := by
  rintro ⟨j, h1, h2, rfl⟩
  have := (nI_ltI (show j < 2 ^ 31 by omega) (by omega)).mp h
  omega
theorem rc_gt {x : Int32} {n : Nat} (hn : n < 2 ^ 31) (h : nI n < x) : ¬ ∃ j, 1 ≤ j ∧ j ≤ n ∧ x = nI j := by
  rintro ⟨j, h1, h2, rfl⟩
  have := (nI_ltI hn (show j < 2 ^ 31 by omega)).mp h
  omega
theorem rc_ok {x : Int32} {n : Nat} (hn : n < 2 ^ 31) (h1 : ¬ x < nI 1) (h2 : ¬ nI n < x) : ∃ j, 1 ≤ j ∧ j ≤ n ∧ x = nI j := by
  rw [Int32.lt_iff_toInt_lt, nI_toInt (by omega)] at h1
  rw [Int32.lt_iff_toInt_lt, nI_toInt hn] at h2
  refine ⟨x.toInt.toNat, by omega, by omega, ?_⟩
  apply Int32.toInt_inj.mp
  rw [nI_toInt (by omega)]
  omega
theorem lg_0 {x : Int64} : lg_cmp x 0 = 0 ↔ x = 0 := by
  unfold lg_cmp
  constructor
  · intro h
    split at h
    · exact absurd h (by decide)
    · split at h
      · assumption
      · exact absurd h (by decide)
  · intro h
    subst h
    decide
theorem ts_nf {x : Bool} (h : ¬ x = false) : x = true := by cases x <;> first | rfl | exact absurd rfl h
theorem ts_nt {x : Bool} (h : ¬ x = true) : x = false := by cases x <;> first | rfl | exact absurd rfl h
theorem nw_b (b : Bool) : narrow .boolean (.int (b01 b)) = .int (b01 b) := by cases b <;> decide
section HX
variable (l : Launch) (D : va_G) (q : Nat → Nat) (k : Nat → ClassId) (σ : sx_T)
theorem cX_isRecord (x : Int32) (n : Nat) (hn : n ≤ 60) (hr : x_rec σ = nI n) : fx_MI l D cl_s (ty_X k) (w_X q k) y_X_isRecord (k_X_isRecord :: tb_l) rm_X_isRecord [.ref (q 0), .int x] σ (fun r u => u = σ ∧ rg_q (∃ j, 1 ≤ j ∧ j ≤ n ∧ x = nI j) r) := by
  refine fx_enterI (by decide +kernel) [some (.ref (q 0)), some (.int x)] rfl (Nat.le_of_ble_eq_true rfl) (Nat.le_of_ble_eq_true rfl) (fun X C hR => ?_)
  refine jr_iload_1 C d_X_isRecord_0 ?_
  refine jr_iconst (v := nI 1) C d_X_isRecord_1 (by decide) ?_
  refine jr_icmp_lt (tgt := 17) C d_X_isRecord_2 (by decide) (fun h => ?_) (fun h => ?_)
  · refine jr_iconst (v := nI 0) C d_X_isRecord_17 (by decide) ?_
    exact hR _ _ _ _ d_X_isRecord_18 rfl ⟨rfl, Or.inr ⟨rfl, rc_lt (by omega) h⟩⟩
  · refine jr_iload_1 C d_X_isRecord_5 ?_
    refine jr_aload_0 C d_X_isRecord_6 ?_
    refine gX_records C d_X_isRecord_7 ?_
    rw [hr]
    refine jr_icmp_gt (tgt := 17) C d_X_isRecord_10 (by decide) (fun h2 => ?_) (fun h2 => ?_)
    · refine jr_iconst (v := nI 0) C d_X_isRecord_17 (by decide) ?_
      exact hR _ _ _ _ d_X_isRecord_18 rfl ⟨rfl, Or.inr ⟨rfl, rc_gt (by omega) h2⟩⟩
    · refine jr_iconst (v := nI 1) C d_X_isRecord_13 (by decide) ?_
      refine jr_goto (tgt := 18) C d_X_isRecord_14 (by decide) ?_
      exact hR _ _ _ _ d_X_isRecord_18 rfl ⟨rfl, Or.inl ⟨rfl, rc_ok (by omega) h h2⟩⟩
theorem cX_holds (r f v : Nat) (hr : r < 64) (hf : f < 6) (hv : v < 100) : fx_MI l D cl_s (ty_X k) (w_X q k) y_X_holds (k_X_holds :: tb_l) rm_X_holds [.ref (q 0), .int (nI r), .int (nI f), .int (nI v)] σ (fun z u => u = σ ∧ z = b01 (tb_b (x_hold σ (f * 100 + v)) r)) := by
  refine fx_enterI (by decide +kernel) [some (.ref (q 0)), some (.int (nI r)), some (.int (nI f)), some (.int (nI v))] rfl (Nat.le_of_ble_eq_true rfl) (Nat.le_of_ble_eq_true rfl) (fun X C hR => ?_)
  refine jr_aload_0 C d_X_holds_0 ?_
  refine gX_holders C d_X_holds_1 ?_
  refine jr_iload_2 C d_X_holds_4 ?_
  refine jr_iload_3 C d_X_holds_5 ?_
  refine kX_cell C ⟨Nat.le_of_ble_eq_true rfl, Nat.le_of_ble_eq_true rfl⟩ (Nat.le_of_ble_eq_true rfl) d_X_holds_6 ?_
  refine aX_holders C (by omega) d_X_holds_9 ?_
  refine jr_iload_1 C d_X_holds_10 ?_
  refine kX_bit C ⟨Nat.le_of_ble_eq_true rfl, Nat.le_of_ble_eq_true rfl⟩ (Nat.le_of_ble_eq_true rfl) d_X_holds_11 ?_
  refine jr_land C d_X_holds_14 ?_
  refine jr_lconst (v := 0) C d_X_holds_15 (by decide) ?_
  refine jr_lcmp C d_X_holds_16 ?_
  refine jr_if_eq (tgt := 24) C d_X_holds_17 (by decide) (fun h => ?_) (fun h => ?_)
  · refine jr_iconst (v := nI 0) C d_X_holds_24 (by decide) ?_
    rw [lg_0, tb_has hr] at h
    exact hR _ _ _ _ d_X_holds_25 rfl ⟨rfl, by rw [h]; rfl⟩
  · refine jr_iconst (v := nI 1) C d_X_holds_20 (by decide) ?_
    refine jr_goto (tgt := 25) C d_X_holds_21 (by decide) ?_
    rw [lg_0, tb_has hr] at h
    exact hR _ _ _ _ d_X_holds_25 rfl ⟨rfl, by rw [ts_nf h]; rfl⟩
theorem cX_heldOf (r f : Nat) (hr : r < 64) (hf : f < 6) : fx_MI l D cl_s (ty_X k) (w_X q k) y_X_heldOf (k_X_heldOf :: tb_l) rm_X_heldOf [.ref (q 0), .int (nI r), .int (nI f)] σ (fun z u => u = σ ∧ z = nI (ct_n (fun v => tb_b (x_hold σ (f * 100 + v)) r) 100)) := by
  refine fx_enterI (by decide +kernel) [some (.ref (q 0)), some (.int (nI r)), some (.int (nI f)), none, none] rfl (Nat.le_of_ble_eq_true rfl) (Nat.le_of_ble_eq_true rfl) (fun X C hR => ?_)
  refine jr_iconst (v := nI 0) C d_X_heldOf_0 (by decide) ?_
  refine jr_istore_3 C d_X_heldOf_1 rfl ?_
  refine jr_iconst (v := nI 0) C d_X_heldOf_2 (by decide) ?_
  refine jr_istore_4 C d_X_heldOf_3 rfl ?_
  have L := lp_up (P := fun v => fx_J X (w_X q k σ) 5 [some (.ref (q 0)), some (.int (nI r)), some (.int (nI f)), some (.int (nI (ct_n (fun v => tb_b (x_hold σ (f * 100 + v)) r) v))), some (.int (nI v))] []) 100 (fun v hv ih => ?_)
  · exact L 0 (by omega)
  · have go : ∀ c, c = ct_n (fun v => tb_b (x_hold σ (f * 100 + v)) r) (v + 1) → v < 100 → fx_J X (w_X q k σ) 26 [some (.ref (q 0)), some (.int (nI r)), some (.int (nI f)), some (.int (nI c)), some (.int (nI v))] [] := by
      intro c hc hv
      refine jr_incN_4 C d_X_heldOf_26 rfl ?_
      refine jr_goto (tgt := 5) C d_X_heldOf_29 (by decide) ?_
      rw [hc]
      exact ih hv
    refine jr_iload_4 C d_X_heldOf_5 ?_
    refine jr_bipush (v := nI 100) C d_X_heldOf_7 (by decide) ?_
    refine jr_N_ge (tgt := 32) C d_X_heldOf_9 (by decide) (by omega) (by omega) (fun h => ?_) (fun h => ?_)
    · refine jr_iload_3 C d_X_heldOf_32 ?_
      exact hR _ _ _ _ d_X_heldOf_33 rfl ⟨rfl, by rw [show v = 100 by omega]⟩
    · refine jr_aload_0 C d_X_heldOf_12 ?_
      refine jr_iload_1 C d_X_heldOf_13 ?_
      refine jr_iload_2 C d_X_heldOf_14 ?_
      refine jr_iload_4 C d_X_heldOf_15 ?_
      refine qX_X_holds C (cX_holds l D q k σ r f v hr hf h) rfl ⟨Nat.le_of_ble_eq_true rfl, Nat.le_of_ble_eq_true rfl⟩ (Nat.le_of_ble_eq_true rfl) d_X_heldOf_17 (fx_p (fun z hz => ?_))
      rw [hz]
      refine jr_if_eq (tgt := 26) C d_X_heldOf_20 (by decide) (fun h2 => ?_) (fun h2 => ?_)
      · exact go _ (ct_sf (p := fun v => tb_b (x_hold σ (f * 100 + v)) r) (b01_eq.mp h2)).symm h
      · refine jr_incN_3 C d_X_heldOf_23 rfl ?_
        exact go _ (ct_st (p := fun v => tb_b (x_hold σ (f * 100 + v)) r) (b01_ne.mp h2)).symm h
theorem cX_isAtOrBelow (p : Nat → Nat) (ht : tr_w p) (f v o : Nat) (hf : f < 6) (hv : v < 100) (ho : o < 100) (hb : ∀ u, u < 100 → x_bro σ (f * 100 + u) = en_p (p u)) : fx_MI l D cl_s (ty_X k) (w_X q k) y_X_isAtOrBelow (k_X_isAtOrBelow :: tb_l) rm_X_isAtOrBelow [.ref (q 0), .int (nI f), .int (nI v), .int (nI o)] σ (fun z u => u = σ ∧ z = b01 (bx_b (ab_o p v o))) := by
  refine fx_enterI (by decide +kernel) [some (.ref (q 0)), some (.int (nI f)), some (.int (nI v)), some (.int (nI o)), none, none] rfl (Nat.le_of_ble_eq_true rfl) (Nat.le_of_ble_eq_true rfl) (fun X C hR => ?_)
  refine jr_iload_2 C d_X_isAtOrBelow_0 ?_
  refine jr_istore_4 C d_X_isAtOrBelow_1 rfl ?_
  refine jr_iconst (v := nI 0) C d_X_isAtOrBelow_3 (by decide) ?_
  refine jr_istore_5 C d_X_isAtOrBelow_4 rfl ?_
  have L := lp_up (P := fun i => (∀ j, j < i → ¬ an_k p j v = o) → fx_J X (w_X q k σ) 6 [some (.ref (q 0)), some (.int (nI f)), some (.int (nI v)), some (.int (nI o)), some (.int (en_p (an_k p i v))), some (.int (nI i))] []) 100 (fun i hi ih hno => ?_)
  · have := L 0 (by omega) (fun j hj => by omega)
    rw [show an_k p 0 v = v from rfl, en_in hv] at this
    exact this
  · have out : (i = 100 ∨ 100 ≤ an_k p i v) → fx_J X (w_X q k σ) 48 [some (.ref (q 0)), some (.int (nI f)), some (.int (nI v)), some (.int (nI o)), some (.int (en_p (an_k p i v))), some (.int (nI i))] [] := by
      intro hk
      refine jr_iconst (v := nI 0) C d_X_isAtOrBelow_48 (by decide) ?_
      exact hR _ _ _ _ d_X_isAtOrBelow_49 rfl ⟨rfl, by
        rw [bx_neg.mpr (fun hh => ?_)]
        · rfl
        · obtain ⟨j, h1, h2⟩ := (ra_end ht hk ho).mpr hh
          exact hno j h1 h2⟩
    refine jr_iload_5 C d_X_isAtOrBelow_6 ?_
    refine jr_bipush (v := nI 100) C d_X_isAtOrBelow_8 (by decide) ?_
    refine jr_N_ge (tgt := 48) C d_X_isAtOrBelow_10 (by decide) (by omega) (by omega) (fun h => ?_) (fun h => ?_)
    · exact out (Or.inl (by omega))
    · refine jr_iload_4 C d_X_isAtOrBelow_13 ?_
      refine qX_X_isValue C (cX_isValue l D (ty_X k) (w_X q k) σ (en_p (an_k p i v))) ⟨Nat.le_of_ble_eq_true rfl, Nat.le_of_ble_eq_true rfl⟩ (Nat.le_of_ble_eq_true rfl) d_X_isAtOrBelow_15 (fx_p (fun z hz => ?_))
      rcases hz with ⟨rfl, hz⟩ | ⟨rfl, hz⟩
      · have hu : an_k p i v < 100 := en_val.mp hz
        refine jr_if_eq (tgt := 48) C d_X_isAtOrBelow_18 (by decide) (fun h2 => ?_) (fun h2 => ?_)
        · exact absurd h2 (by decide)
        · rw [en_in hu]
          refine jr_iload_4 C d_X_isAtOrBelow_21 ?_
          refine jr_iload_3 C d_X_isAtOrBelow_23 ?_
          refine jr_N_ne (tgt := 29) C d_X_isAtOrBelow_24 (by decide) (by omega) (by omega) (fun h3 => ?_) (fun h3 => ?_)
          · refine jr_aload_0 C d_X_isAtOrBelow_29 ?_
            refine gX_broaderOf C d_X_isAtOrBelow_30 ?_
            refine jr_iload_1 C d_X_isAtOrBelow_33 ?_
            refine jr_iload_4 C d_X_isAtOrBelow_34 ?_
            refine kX_cell C ⟨Nat.le_of_ble_eq_true rfl, Nat.le_of_ble_eq_true rfl⟩ (Nat.le_of_ble_eq_true rfl) d_X_isAtOrBelow_36 ?_
            refine aX_broaderOf C (by omega) d_X_isAtOrBelow_39 ?_
            refine jr_istore_4 C d_X_isAtOrBelow_40 rfl ?_
            rw [hb _ hu, ← an_s p]
            refine jr_incN_5 C d_X_isAtOrBelow_42 rfl ?_
            refine jr_goto (tgt := 6) C d_X_isAtOrBelow_45 (by decide) ?_
            exact ih h (fun j hj => by
              rcases Nat.lt_or_ge j i with q | q
              · exact hno j q
              · rw [show j = i by omega]; exact h3)
          · refine jr_iconst (v := nI 1) C d_X_isAtOrBelow_27 (by decide) ?_
            exact hR _ _ _ _ d_X_isAtOrBelow_28 rfl ⟨rfl, by rw [bx_iff.mpr ⟨i, h3⟩]; rfl⟩
      · have hu : ¬ an_k p i v < 100 := fun q => hz (en_val.mpr q)
        refine jr_if_eq (tgt := 48) C d_X_isAtOrBelow_18 (by decide) (fun h2 => ?_) (fun h2 => ?_)
        · exact out (Or.inr (by omega))
        · exact absurd nI_0 h2
end HX
