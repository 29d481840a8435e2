theorem px_ix {f v f2 v2 : Nat} (h1 : v < 100) (h2 : v2 < 100) (h : f2 * 100 + v2 = f * 100 + v) : f2 = f ∧ v2 = v := by omega
theorem px_val {a : ab_T} {σ : sx_T} {r f v : Nat} {h : Nat → Int64} (hw : a_wf a) (hx : rx_r a σ) (hr : r ≤ a_n a) (hv : v < 100)
    (hh : ∀ i s, tb_b (h i) s = (tb_b (x_hav σ i) s || (bx_b (∃ c, c < 100 ∧ i = f * 100 + c ∧ ab_o (a_par a f) v c) && tb_b (tb_1 r) s))) :
    rx_r (a_val a r f v) (xs_hav (xs_held (xs_hold σ (vp_updL (x_hold σ) (f * 100 + v) (x_hold σ (f * 100 + v) ||| tb_1 r))) (nI (a_v a + 1))) h) := by
  have hr64 : r < 64 := by have := hw.1; omega
  obtain ⟨h1, h2, h3, h4, h5, h6, h7⟩ := hx
  refine ⟨h1, rfl, fun f2 v2 r2 hf2 hv2 hr2 => ?_, fun f2 v2 r2 hf2 hv2 hr2 => ?_, h5, h6, h7⟩
  · show tb_b (vp_updL (x_hold σ) (f * 100 + v) (x_hold σ (f * 100 + v) ||| tb_1 r) (f2 * 100 + v2)) r2 = if r2 = r ∧ f2 = f ∧ v2 = v then true else a_own a r2 f2 v2
    by_cases e : f2 * 100 + v2 = f * 100 + v
    · obtain ⟨rfl, rfl⟩ := px_ix hv hv2 e
      rw [pk_uLs, tb_set hr64, h3 f2 v2 r2 hf2 hv2 hr2]
      by_cases e2 : r2 = r
      · subst e2; simp
      · simp [e2]
    · rw [pk_uLn e, h3 f2 v2 r2 hf2 hv2 hr2, if_neg (fun q => e (by rw [q.2.1, q.2.2]))]
  · show tb_b (h (f2 * 100 + v2)) r2 = _
    rw [hh, h4 f2 v2 r2 hf2 hv2 hr2, tb_one hr64]
    apply bl_eq
    rw [Bool.or_eq_true, Bool.and_eq_true, bx_iff, bx_iff, bx_iff, decide_eq_true_eq]
    constructor
    · rintro (⟨w, g1, g2, g3⟩ | ⟨⟨c, g1, g2, g3⟩, g4⟩)
      · exact ⟨w, g1, by show (if r2 = r ∧ f2 = f ∧ w = v then true else a_own a r2 f2 w) = true; rw [g2]; split <;> rfl, g3⟩
      · obtain ⟨rfl, rfl⟩ := px_ix g1 hv2 g2
        exact ⟨v, hv, by show (if r2 = r ∧ f2 = f2 ∧ v = v then true else a_own a r2 f2 v) = true; rw [if_pos ⟨g4, rfl, rfl⟩], g3⟩
    · rintro ⟨w, g1, g2, g3⟩
      have g2 : (if r2 = r ∧ f2 = f ∧ w = v then true else a_own a r2 f2 w) = true := g2
      have g3 : ab_o (a_par a f2) w v2 := g3
      by_cases e : r2 = r ∧ f2 = f ∧ w = v
      · obtain ⟨rfl, rfl, rfl⟩ := e
        exact Or.inr ⟨⟨v2, hv2, rfl, g3⟩, rfl⟩
      · rw [if_neg e] at g2
        exact Or.inl ⟨w, g1, g2, g3⟩
theorem px_gon {a : ab_T} {σ : sx_T} {r f v : Nat} {h : Nat → Int64} (hw : a_wf a) (hx : rx_r a σ) (hr : r ≤ a_n a) (hv : v < 100)
    (hh : ∀ c s, c < 100 → tb_b (h (f * 100 + c)) s = bx_b (∃ w, w < 100 ∧ tb_b (vp_updL (x_hold σ) (f * 100 + v) (x_hold σ (f * 100 + v) &&& (tb_1 r ^^^ (-1))) (f * 100 + w)) s = true ∧ ab_o (a_par a f) w c))
    (ho : ∀ i s, (¬ ∃ c, c < 100 ∧ i = f * 100 + c) → tb_b (h i) s = tb_b (x_hav σ i) s) :
    rx_r (a_gon a r f v) (xs_hav (xs_held (xs_hold σ (vp_updL (x_hold σ) (f * 100 + v) (x_hold σ (f * 100 + v) &&& (tb_1 r ^^^ (-1))))) (nI (a_v a - 1))) h) := by
  have hr64 : r < 64 := by have := hw.1; omega
  obtain ⟨h1, h2, h3, h4, h5, h6, h7⟩ := hx
  have hold : ∀ f2 v2 r2, f2 < 6 → v2 < 100 → r2 < 64 → tb_b (vp_updL (x_hold σ) (f * 100 + v) (x_hold σ (f * 100 + v) &&& (tb_1 r ^^^ (-1))) (f2 * 100 + v2)) r2 = if r2 = r ∧ f2 = f ∧ v2 = v then false else a_own a r2 f2 v2 := by
    intro f2 v2 r2 hf2 hv2 hr2
    by_cases e : f2 * 100 + v2 = f * 100 + v
    · obtain ⟨rfl, rfl⟩ := px_ix hv hv2 e
      rw [pk_uLs, tb_clr hr64 hr2, h3 f2 v2 r2 hf2 hv2 hr2]
      by_cases e2 : r2 = r
      · subst e2; simp
      · simp [e2]
    · rw [pk_uLn e, h3 f2 v2 r2 hf2 hv2 hr2, if_neg (fun q => e (by rw [q.2.1, q.2.2]))]
  refine ⟨h1, rfl, hold, fun f2 v2 r2 hf2 hv2 hr2 => ?_, h5, h6, h7⟩
  show tb_b (h (f2 * 100 + v2)) r2 = _
  by_cases e : f2 = f
  · subst e
    rw [hh v2 r2 hv2]
    refine bx_congr ⟨fun ⟨w, g1, g2, g3⟩ => ⟨w, g1, ?_, g3⟩, fun ⟨w, g1, g2, g3⟩ => ⟨w, g1, ?_, g3⟩⟩
    · rw [hold f2 w r2 hf2 g1 hr2] at g2
      exact g2
    · rw [hold f2 w r2 hf2 g1 hr2]
      exact g2
  · rw [ho _ _ (fun ⟨c, g1, g2⟩ => e (px_ix g1 hv2 g2).1), h4 f2 v2 r2 hf2 hv2 hr2]
    refine bx_congr ⟨fun ⟨w, g1, g2, g3⟩ => ⟨w, g1, ?_, g3⟩, fun ⟨w, g1, g2, g3⟩ => ⟨w, g1, ?_, g3⟩⟩
    · show (if r2 = r ∧ f2 = f ∧ w = v then false else a_own a r2 f2 w) = true
      rw [if_neg (fun q => e q.2.1)]
      exact g2
    · have g2 : (if r2 = r ∧ f2 = f ∧ w = v then false else a_own a r2 f2 w) = true := g2
      rw [if_neg (fun q => e q.2.1)] at g2
      exact g2
theorem px_nar {a : ab_T} {σ : sx_T} {f v b : Nat} {h : Nat → Int64} (hx : rx_r a σ) (hv : v < 100)
    (hh : ∀ c s, c < 100 → tb_b (h (f * 100 + c)) s = bx_b (∃ w, w < 100 ∧ tb_b (x_hold σ (f * 100 + w)) s = true ∧ ab_o (a_par (a_nar a f v b) f) w c))
    (ho : ∀ i s, (¬ ∃ c, c < 100 ∧ i = f * 100 + c) → tb_b (h i) s = tb_b (x_hav σ i) s) :
    rx_r (a_nar a f v b) (xs_hav (xs_bro σ (upd (x_bro σ) (f * 100 + v) (en_p b))) h) := by
  obtain ⟨h1, h2, h3, h4, h5, h6, h7⟩ := hx
  refine ⟨h1, h2, h3, fun f2 v2 r2 hf2 hv2 hr2 => ?_, fun f2 v2 hf2 hv2 => ?_, h6, h7⟩
  · show tb_b (h (f2 * 100 + v2)) r2 = _
    by_cases e : f2 = f
    · subst e
      rw [hh v2 r2 hv2]
      refine bx_congr ⟨fun ⟨w, g1, g2, g3⟩ => ⟨w, g1, ?_, g3⟩, fun ⟨w, g1, g2, g3⟩ => ⟨w, g1, ?_, g3⟩⟩
      · rw [h3 f2 w r2 hf2 g1 hr2] at g2
        exact g2
      · rw [h3 f2 w r2 hf2 g1 hr2]
        exact g2
    · rw [ho _ _ (fun ⟨c, g1, g2⟩ => e (px_ix g1 hv2 g2).1), h4 f2 v2 r2 hf2 hv2 hr2]
      have ep : a_par (a_nar a f v b) f2 = a_par a f2 := funext (fun u => if_neg (fun q => e q.1))
      refine bx_congr ⟨fun ⟨w, g1, g2, g3⟩ => ⟨w, g1, g2, ?_⟩, fun ⟨w, g1, g2, g3⟩ => ⟨w, g1, g2, ?_⟩⟩
      · rw [ep]; exact g3
      · rw [ep] at g3; exact g3
  · show upd (x_bro σ) (f * 100 + v) (en_p b) (f2 * 100 + v2) = en_p (if f2 = f ∧ v2 = v then b else a_par a f2 v2)
    by_cases e : f2 * 100 + v2 = f * 100 + v
    · obtain ⟨rfl, rfl⟩ := px_ix hv hv2 e
      rw [pk_us, if_pos ⟨rfl, rfl⟩]
    · rw [pk_un e, h5 f2 v2 hf2 hv2, if_neg (fun q => e (by rw [q.1, q.2]))]
theorem px_hit {a : ab_T} {σ : sx_T} {r : Nat} {z : Int64} {on : Bool} (hx : rx_r a σ) (hz : ∀ s, s < 64 → tb_b z s = if s = r then on else tb_b (x_hits σ) s) : rx_r (a_hiS a r on) (xs_hits σ z) := by
  obtain ⟨h1, h2, h3, h4, h5, h6, h7⟩ := hx
  refine ⟨h1, h2, h3, h4, h5, h6, fun s hs => ?_⟩
  show tb_b z s = if s = r then on else a_hit a s
  rw [hz s hs, h7 s hs]
theorem px_cho {a : ab_T} {σ : sx_T} {f v : Nat} (hx : rx_r a σ) (hv : v < 100) : rx_r (a_chS a f v) (xs_cho σ (upd (x_cho σ) (f * 100 + v) (b01 (!a_cho a f v)))) := by
  obtain ⟨h1, h2, h3, h4, h5, h6, h7⟩ := hx
  refine ⟨h1, h2, h3, h4, h5, fun f2 v2 hf2 hv2 => ?_, h7⟩
  show upd (x_cho σ) (f * 100 + v) (b01 (!a_cho a f v)) (f2 * 100 + v2) = b01 (if f2 = f ∧ v2 = v then !a_cho a f2 v2 else a_cho a f2 v2)
  by_cases e : f2 * 100 + v2 = f * 100 + v
  · obtain ⟨rfl, rfl⟩ := px_ix hv hv2 e
    rw [pk_us, if_pos ⟨rfl, rfl⟩]
  · rw [pk_un e, h6 f2 v2 hf2 hv2, if_neg (fun q => e (by rw [q.1, q.2]))]
/-- what stays a state -/
theorem wf_rec {a : ab_T} (hw : a_wf a) (h : a_n a < 60) : a_wf (a_rec a) := by
  obtain ⟨h1, h2, h3, h4, h5⟩ := hw
  exact ⟨by show a_n a + 1 ≤ 60; omega, h2, fun r f v q => ⟨(h3 r f v q).1, by have := (h3 r f v q).2; show r ≤ a_n a + 1; omega⟩, fun r q => ⟨(h4 r q).1, by have := (h4 r q).2; show r ≤ a_n a + 1; omega⟩, h5⟩
theorem wf_val {a : ab_T} (hw : a_wf a) {r f v : Nat} (hr1 : 1 ≤ r) (hr : r ≤ a_n a) (h : a_v a < 400) : a_wf (a_val a r f v) := by
  obtain ⟨h1, h2, h3, h4, h5⟩ := hw
  refine ⟨h1, by show a_v a + 1 ≤ 400; omega, fun r2 f2 v2 q => ?_, h4, h5⟩
  have q : (if r2 = r ∧ f2 = f ∧ v2 = v then true else a_own a r2 f2 v2) = true := q
  by_cases e : r2 = r ∧ f2 = f ∧ v2 = v
  · rw [e.1]; exact ⟨hr1, hr⟩
  · rw [if_neg e] at q; exact h3 r2 f2 v2 q
theorem wf_gon {a : ab_T} (hw : a_wf a) {r f v : Nat} : a_wf (a_gon a r f v) := by
  obtain ⟨h1, h2, h3, h4, h5⟩ := hw
  refine ⟨h1, by show a_v a - 1 ≤ 400; omega, fun r2 f2 v2 q => ?_, h4, h5⟩
  have q : (if r2 = r ∧ f2 = f ∧ v2 = v then false else a_own a r2 f2 v2) = true := q
  by_cases e : r2 = r ∧ f2 = f ∧ v2 = v
  · rw [if_pos e] at q; exact absurd q (by decide)
  · rw [if_neg e] at q; exact h3 r2 f2 v2 q
theorem wf_nar {a : ab_T} (hw : a_wf a) {f v b : Nat} (hv : v < 100) (hb : b ≤ 100) (hr : b < 100 → ¬ ab_o (a_par a f) b v) : a_wf (a_nar a f v b) := by
  obtain ⟨h1, h2, h3, h4, h5⟩ := hw
  refine ⟨h1, h2, h3, h4, fun f2 => ?_⟩
  by_cases e : f2 = f
  · subst e
    have : a_par (a_nar a f2 v b) f2 = fun u => if u = v then b else a_par a f2 u := funext (fun u => by
      show (if f2 = f2 ∧ u = v then b else a_par a f2 u) = if u = v then b else a_par a f2 u
      simp)
    rw [this]
    exact tr_set (h5 f2) hv hb hr
  · have : a_par (a_nar a f v b) f2 = a_par a f2 := funext (fun u => if_neg (fun q => e q.1))
    rw [this]
    exact h5 f2
theorem wf_hiS {a : ab_T} (hw : a_wf a) {r : Nat} {on : Bool} (hr1 : 1 ≤ r) (hr : r ≤ a_n a) : a_wf (a_hiS a r on) := by
  obtain ⟨h1, h2, h3, h4, h5⟩ := hw
  refine ⟨h1, h2, h3, fun r2 q => ?_, h5⟩
  have q : (if r2 = r then on else a_hit a r2) = true := q
  by_cases e : r2 = r
  · rw [e]; exact ⟨hr1, hr⟩
  · rw [if_neg e] at q; exact h4 r2 q
theorem wf_chS {a : ab_T} (hw : a_wf a) {f v : Nat} : a_wf (a_chS a f v) := hw
