/-! THE REFERENCE'S EXPRESSIONS go the machine's way. Printed from wip/am/chk/hand/r3.in. -/
abbrev sy0 (t : Nat) : SY := (0, t, [], 0, [])
def xF (b : Nat → Int) (Z t0 : Nat) (σ : am_S) : Prop := ∃ t' m : Nat, t' ≤ 400 ∧ (m = 4 ∧ pF σ = 1 ∨ m = 5 ∧ pF σ = 2) ∧ pFp σ = tP b Z t' ∧ syR (tK b Z) (tV b Z) (sy0 t0) (m, t', [], 0, [])
def xO (b : Nat → Int) (Z t0 : Nat) (c : Nat) (σ : am_S) (m : Nat) : Prop := ∃ t, rOK b Z σ t ∧ syR (tK b Z) (tV b Z) (sy0 t0) (m, t, WL σ, (pO σ).toNat, CL σ c)
/-- what is held for wrong stays -/
def wX (σ τ : am_S) : Prop := τ.1 51 15 = σ.1 51 15 ∧ τ.1 51 16 = σ.1 51 16
theorem wX_t {σ τ υ : am_S} (h : wX σ τ) (g : wX τ υ) : wX σ υ := ⟨g.1.trans h.1, g.2.trans h.2⟩
theorem wX_f {σ : am_S} {k : Int} : wX σ (failS k σ) := by
  unfold failS
  split
  · exact ⟨by rw [pi_n _ _ _ _ (by decide), pi_n _ _ _ _ (by decide)], by rw [pi_n _ _ _ _ (by decide), pi_n _ _ _ _ (by decide)]⟩
  · exact ⟨rfl, rfl⟩
theorem wX_g {σ : am_S} : wX σ (goS σ) := by
  unfold goS
  split
  · exact wX_f
  · exact ⟨pi_n _ _ _ _ (by decide), pi_n _ _ _ _ (by decide)⟩
theorem wX_m {σ : am_S} {k : Int} : wX σ (muS k σ) := by
  unfold muS
  split
  · exact wX_g
  · exact wX_f
theorem wX_e {σ : am_S} {k v : Int} : wX σ (emS σ k v) := ⟨emS_o (by decide) (by decide) (fun z => absurd z.2 (by decide)), emS_o (by decide) (by decide) (fun z => absurd z.2 (by decide))⟩
theorem wX_u {σ : am_S} : wX σ (unS σ) := by
  unfold unS
  split
  · exact wX_t wX_e wX_g
  · split
    · exact wX_t wX_e wX_g
    · exact wX_f
/-- while an expression is read: the machine has come as far -/
def XA (σ0 σ : am_S) (m : Nat) : Prop := wX σ0 σ ∧ ∀ (b : Nat → Int) (Z t0 : Nat), rST b Z σ0 (.inl t0) → wVR b Z σ ∧ (xO b Z t0 (pC σ0).toNat σ m ∨ xF b Z t0 σ)
/-- behind an expression -/
def XE (σ τ : am_S) : Prop := wX σ τ ∧ ∀ (b : Nat → Int) (Z t0 : Nat), rST b Z σ (.inl t0) → wVR b Z τ ∧ ((∃ t, rOK b Z τ t ∧ syE (tK b Z) (tV b Z) t0 = (2, t, [], 0, CL τ (pC σ).toNat)) ∨ (∃ t' m : Nat, t' ≤ 400 ∧ (m = 4 ∧ pF τ = 1 ∨ m = 5 ∧ pF τ = 2) ∧ pFp τ = tP b Z t' ∧ syE (tK b Z) (tV b Z) t0 = (m, t', [], 0, [])))
/-- what tokens rest on is as it was -/
def tks (σ τ : am_S) : Prop := (∀ o i, 54 ≤ o → o ≤ 56 → τ.1 o i = σ.1 o i) ∧ (∀ i, τ.2 57 i = σ.2 57 i) ∧ wX σ τ
theorem tks_r (σ : am_S) : tks σ σ := ⟨fun _ _ _ _ => rfl, fun _ => rfl, rfl, rfl⟩
theorem tks_t {σ τ υ : am_S} (h : tks σ τ) (g : tks τ υ) : tks σ υ := ⟨fun o i a c => (g.1 o i a c).trans (h.1 o i a c), fun i => (g.2.1 i).trans (h.2.1 i), wX_t h.2.2 g.2.2⟩
theorem tks_TK {σ τ : am_S} (g : TK σ τ) (w : wX σ τ) : tks σ τ := ⟨fun o i a c => TK_o g (fun z => by omega), fun i => TK_2 g (by decide), w⟩
theorem tks_ex {σ τ : am_S} (g : exF σ τ) (w : wX σ τ) : tks σ τ := ⟨fun o i a c => g.f1 o i (by omega) (by omega) (by omega) (fun z => by omega), fun i => g.f2 _ i (by decide), w⟩
theorem wVR_tks {b : Nat → Int} {Z : Nat} {σ τ : am_S} (h : wVR b Z σ) (g : tks σ τ) : wVR b Z τ := wVR_fr h g.1 g.2.1
/-- a fault stays as it was told -/
theorem XA_flt {σ0 σ τ : am_S} {m m' : Nat} (h : XA σ0 σ m) (hz : pF σ ≠ 0) (hk : tks σ τ) (hF : pF τ = pF σ) (hP : pFp τ = pFp σ) : XA σ0 τ m' := by
  refine ⟨wX_t h.1 hk.2.2, fun b Z t0 h0 => ?_⟩
  obtain ⟨v, h1⟩ := h.2 b Z t0 h0
  refine ⟨wVR_tks v hk, Or.inr ?_⟩
  rcases h1 with ⟨t, h1, _⟩ | ⟨t', k, h1, h2, h3, h4⟩
  · exact absurd h1.2.2 hz
  · exact ⟨t', k, h1, by rw [hF]; exact h2, by rw [hP]; exact h3, h4⟩
theorem XA_go {σ0 σ τ : am_S} {m m' : Nat} (h : XA σ0 σ m) (hz : pF σ = 0) (hw : wX σ τ) (hO : ∀ (b : Nat → Int) (Z t0 t : Nat), wVR b Z σ → rOK b Z σ t → syR (tK b Z) (tV b Z) (sy0 t0) (m, t, WL σ, (pO σ).toNat, CL σ (pC σ0).toNat) → wVR b Z τ ∧ (xO b Z t0 (pC σ0).toNat τ m' ∨ xF b Z t0 τ)) : XA σ0 τ m' := by
  refine ⟨wX_t h.1 hw, fun b Z t0 h0 => ?_⟩
  obtain ⟨v, h1⟩ := h.2 b Z t0 h0
  rcases h1 with ⟨t, h1, h2⟩ | ⟨t', k, h1, h2, h3, h4⟩
  · exact hO b Z t0 t v h1 h2
  · exfalso
    rcases h2 with ⟨_, q⟩ | ⟨_, q⟩ <;> omega
theorem XE_flt {σ0 σ : am_S} {m : Nat} (h : XA σ0 σ m) (hz : pF σ ≠ 0) : XE σ0 σ := by
  refine ⟨h.1, fun b Z t0 h0 => ?_⟩
  obtain ⟨v, h1⟩ := h.2 b Z t0 h0
  refine ⟨v, Or.inr ?_⟩
  rcases h1 with ⟨t, h1, _⟩ | ⟨t', k, h1, h2, h3, h4⟩
  · exact absurd h1.2.2 hz
  · exact ⟨t', k, h1, h2, h3, syE_of h4 (by show 2 ≤ k; omega) h0.2.1.1⟩
theorem kd_of {b : Nat → Int} {Z t : Nat} {σ : am_S} (v : wVR b Z σ) (h : rOK b Z σ t) : kdT σ = tK b Z t := by
  obtain ⟨⟨t1, t2⟩, e1, e2⟩ := h
  obtain ⟨c1, _⟩ := v.2 t t1 t2
  have kb := tkd_b (b := b) (Z := Z) (i := ps b Z t)
  unfold kdT
  rw [e1, show ((t : Int)).toNat = t by omega, c1]
  exact ii_t (by show -2147483648 ≤ tkd b Z (ps b Z t); omega) (by show tkd b Z (ps b Z t) < 2147483648; omega)
theorem vl_of {b : Nat → Int} {Z t : Nat} {σ : am_S} (v : wVR b Z σ) (h : rOK b Z σ t) (hk : tK b Z t = 2) : vlT σ = tV b Z t := by
  obtain ⟨⟨t1, t2⟩, e1, e2⟩ := h
  obtain ⟨_, _, c3, _⟩ := v.2 t t1 t2
  have vb := tV_b hk
  unfold vlT
  rw [e1, show ((t : Int)).toNat = t by omega, c3 hk]
  exact ii_t (by omega) (by omega)
theorem pl_of {b : Nat → Int} {Z t : Nat} {σ : am_S} (v : wVR b Z σ) (h : rOK b Z σ t) : (σ.1 55 (pT σ).toNat).toInt = tP b Z t := by
  obtain ⟨⟨t1, t2⟩, e1, e2⟩ := h
  obtain ⟨_, c2, _⟩ := v.2 t t1 t2
  have pb := tP_b (b := b) (j := t) v.1
  rw [e1, show ((t : Int)).toNat = t by omega, c2]
  exact ii_t (by omega) (by omega)
theorem failS_F {σ : am_S} {k : Int} (hz : pF σ = 0) (hk : 1 ≤ k ∧ k ≤ 9) : pF (failS k σ) = k ∧ pFp (failS k σ) = (σ.1 55 (pT σ).toNat).toInt := by
  unfold failS
  rw [if_pos hz]
  refine ⟨?_, ?_⟩
  · unfold pF; rw [pi_n _ _ _ _ (by decide), pi_s, ii_t (by omega) (by omega)]
  · unfold pFp; rw [pi_s]
theorem failS_z {σ : am_S} {k : Int} (hz : pF σ ≠ 0) : failS k σ = σ := by
  unfold failS
  rw [if_neg hz]
theorem goS_z {σ : am_S} (hz : pF σ ≠ 0) : pF (goS σ) = pF σ ∧ pFp (goS σ) = pFp σ := by
  unfold goS
  split
  · rw [failS_z hz]; exact ⟨rfl, rfl⟩
  · refine ⟨?_, ?_⟩
    · unfold pF; rw [pi_n _ _ _ _ (by decide)]
    · unfold pFp; rw [pi_n _ _ _ _ (by decide)]
/-- goesOn from token t -/
theorem goS_t {b : Nat → Int} {Z t : Nat} {σ : am_S} (hB : sb_ok BB SH σ) (v : wVR b Z σ) (h : rOK b Z σ t) (hk : tK b Z t ≠ 0) : wVR b Z (goS σ) ∧ ((t = 400 ∧ pF (goS σ) = 2 ∧ pFp (goS σ) = tP b Z t) ∨ (t < 400 ∧ rOK b Z (goS σ) (t + 1))) := by
  have ok := goS_ok hB
  have pl := pl_of v h
  obtain ⟨⟨t1, t2⟩, e1, e2⟩ := h
  refine ⟨wVR_TK v ok.1, ?_⟩
  by_cases q : t = 400
  · refine Or.inl ⟨q, ?_⟩
    have e : goS σ = failS 2 σ := by unfold goS; rw [if_pos (by omega)]
    have f := failS_F (k := 2) e2 ⟨by decide, by decide⟩
    rw [e]
    exact ⟨f.1, f.2.trans pl⟩
  · refine Or.inr ⟨by omega, ⟨by omega, fun i hi => ?_⟩, ?_, ?_⟩
    · by_cases z : i = t
      · rw [z]; exact hk
      · exact t2 i (by omega)
    · rcases ok.2 with ⟨a, _⟩ | ⟨a, _⟩
      · rw [a, e1]; rfl
      · exfalso
        unfold goS at a
        rw [if_neg (by omega)] at a
        unfold pT at a e1
        rw [pi_s, ii_t (by omega) (by omega)] at a
        omega
    · unfold goS
      rw [if_neg (by omega)]
      unfold pF
      rw [pi_n _ _ _ _ (by decide)]
      exact e2
theorem xF_of {b : Nat → Int} {Z t0 t m : Nat} {σ : am_S} {q : SY} {k : Int} (hR : syR (tK b Z) (tV b Z) (sy0 t0) q) (hs : syS (tK b Z) (tV b Z) q = (m, t, [], 0, [])) (ht : t ≤ 400) (hm : m = 4 ∧ k = 1 ∨ m = 5 ∧ k = 2) (h1 : pF σ = k) (h2 : pFp σ = tP b Z t) : xF b Z t0 σ := ⟨t, m, ht, by rw [h1]; exact hm, h2, syR_t hR (syR_s hs)⟩
theorem psS_l {σ : am_S} {k : Int} (hB : sb_ok BB SH σ) (hw : pW σ ≤ 63) (hk : -2147483648 ≤ k ∧ k < 2147483648) : WL (psS σ k) = k :: WL σ ∧ (∀ c, CL (psS σ k) c = CL σ c) ∧ pO (psS σ k) = pO σ ∧ pF (psS σ k) = pF σ ∧ pFp (psS σ k) = pFp σ ∧ pT (psS σ k) = pT σ ∧ tks σ (psS σ k) := by
  have wb := pW_b hB
  have ef : ∀ i, i ≠ 41 → (psS σ k).1 51 i = σ.1 51 i := fun i q => by unfold psS; rw [pi_n _ _ _ _ (fun z => q z.2), pi_n _ _ _ _ (fun z => absurd z.1 (by decide))]
  have eW : pW (psS σ k) = pW σ + 1 := by
    show ((am_pi (am_pi σ 76 (pW σ).toNat (Int32.ofInt k)) 51 41 (Int32.ofInt (pW σ + 1))).1 51 41).toInt = _
    rw [pi_s, ii_t (by omega) (by omega)]
  have esw : ∀ i, sw (psS σ k) i = if i = (pW σ).toNat then k else sw σ i := fun i => by
    unfold sw psS
    rw [pi_n _ _ _ _ (fun z => absurd z.1 (by decide))]
    by_cases q : i = (pW σ).toNat
    · rw [if_pos q, q, pi_s, ii_t hk.1 hk.2]
    · rw [if_neg q, pi_n _ _ _ _ (fun z => q z.2)]
  have ea : ∀ o i, o ≠ 51 → o ≠ 76 → (psS σ k).1 o i = σ.1 o i := fun o i q1 q2 => by unfold psS; rw [pi_n _ _ _ _ (fun z => q1 z.1), pi_n _ _ _ _ (fun z => q2 z.1)]
  refine ⟨?_, fun c => ?_, ?_, ?_, ?_, ?_, fun o i a c => ea o i (by omega) (by omega), fun _ => rfl, ef _ (by decide), ef _ (by decide)⟩
  · unfold WL
    rw [eW, show (pW σ + 1).toNat = (pW σ).toNat + 1 by omega]
    simp only [WLn]
    rw [esw, if_pos rfl, WLn_of (σ := σ) (fun i hi => by rw [esw, if_neg (by omega)])]
  · have eC : pC (psS σ k) = pC σ := by unfold pC; rw [ef _ (by decide)]
    unfold CL
    rw [eC]
    exact CLn_of (fun i _ _ => ⟨by unfold cd; rw [ea _ _ (by decide) (by decide)], by unfold cI; rw [ea _ _ (by decide) (by decide)]⟩)
  · unfold pO; rw [ef _ (by decide)]
  · unfold pF; rw [ef _ (by decide)]
  · unfold pFp; rw [ef _ (by decide)]
  · unfold pT; rw [ef _ (by decide)]
/-- open is counted -/
theorem opS_l {σ : am_S} {x : Int} (hx : 0 ≤ x ∧ x ≤ 7) : WL (am_pi σ 51 12 (Int32.ofInt x)) = WL σ ∧ (∀ c, CL (am_pi σ 51 12 (Int32.ofInt x)) c = CL σ c) ∧ pO (am_pi σ 51 12 (Int32.ofInt x)) = x ∧ pF (am_pi σ 51 12 (Int32.ofInt x)) = pF σ ∧ pFp (am_pi σ 51 12 (Int32.ofInt x)) = pFp σ ∧ pT (am_pi σ 51 12 (Int32.ofInt x)) = pT σ ∧ tks σ (am_pi σ 51 12 (Int32.ofInt x)) := by
  have ef : ∀ i, i ≠ 12 → (am_pi σ 51 12 (Int32.ofInt x)).1 51 i = σ.1 51 i := fun i q => pi_n _ _ _ _ (fun z => q z.2)
  have ea : ∀ o i, o ≠ 51 → (am_pi σ 51 12 (Int32.ofInt x)).1 o i = σ.1 o i := fun o i q => pi_n _ _ _ _ (fun z => q z.1)
  refine ⟨?_, fun c => ?_, ?_, ?_, ?_, ?_, fun o i a c => ea o i (by omega), fun _ => rfl, ef _ (by decide), ef _ (by decide)⟩
  · have eW : pW (am_pi σ 51 12 (Int32.ofInt x)) = pW σ := by unfold pW; rw [ef _ (by decide)]
    unfold WL
    rw [eW]
    exact WLn_of (fun i _ => by unfold sw; rw [ea _ _ (by decide)])
  · have eC : pC (am_pi σ 51 12 (Int32.ofInt x)) = pC σ := by unfold pC; rw [ef _ (by decide)]
    unfold CL
    rw [eC]
    exact CLn_of (fun i _ _ => ⟨by unfold cd; rw [ea _ _ (by decide)], by unfold cI; rw [ea _ _ (by decide)]⟩)
  · unfold pO; rw [pi_s, ii_t (by omega) (by omega)]
  · unfold pF; rw [ef _ (by decide)]
  · unfold pFp; rw [ef _ (by decide)]
  · unfold pT; rw [ef _ (by decide)]
theorem rOK_of {b : Nat → Int} {Z t : Nat} {σ τ : am_S} (h : rOK b Z σ t) (h1 : pT τ = pT σ) (h2 : pF τ = pF σ) : rOK b Z τ t := ⟨h.1, h1.trans h.2.1, h2.trans h.2.2⟩
/-- a bracket opens -/
theorem XA_open {σ0 σ υ : am_S} {d : Nat} (h : XA σ0 σ 0) (hz : pF σ = 0) (hk : kdT σ = 6) (hO : pO σ = (d : Int)) (hd : d ≤ 5) (hB : sb_ok BB SH (am_pi σ 51 12 (Int32.ofInt ((d + 1 : Nat) : Int)))) (eυ : υ = goS (am_pi σ 51 12 (Int32.ofInt ((d + 1 : Nat) : Int)))) (hw : pW υ ≤ 63) : XA σ0 (psS υ 6) 0 := by
  obtain ⟨o1, o2, o3, o4, o5, o6, o7⟩ := opS_l (σ := σ) (x := ((d + 1 : Nat) : Int)) ⟨by omega, by omega⟩
  obtain ⟨u, eu⟩ : ∃ u, u = am_pi σ 51 12 (Int32.ofInt ((d + 1 : Nat) : Int)) := ⟨_, rfl⟩
  rw [← eu] at o1 o2 o3 o4 o5 o6 o7 hB eυ
  have gk := goS_ok hB
  rw [← eυ] at gk
  obtain ⟨p1, p2, p3, p4, p5, p6, p7⟩ := psS_l (k := 6) gk.1.1.1 hw ⟨by decide, by decide⟩
  refine XA_go h hz (wX_t o7.2.2 (wX_t (by rw [eυ]; exact wX_g) p7.2.2)) (fun b Z t0 t v r hR => ?_)
  have ek := kd_of v r
  rw [hk] at ek
  have tb := r.1.1
  obtain ⟨v2, g⟩ := goS_t hB (wVR_tks v o7) (rOK_of r o6 o4) (by rw [← ek]; decide)
  rw [← eυ] at v2 g
  refine ⟨wVR_tks v2 p7, ?_⟩
  rcases g with ⟨g1, g2, g3⟩ | ⟨g1, g2⟩
  · refine Or.inr (xF_of hR (m := 5) (k := 2) ?_ tb (Or.inr ⟨rfl, rfl⟩) (p4.trans g2) (p5.trans g3))
    simp only [syS]
    rw [if_pos ek.symm, if_pos (Or.inr g1)]
  · refine Or.inl ⟨t + 1, rOK_of g2 p6 p4, syR_t hR (syR_s ?_)⟩
    simp only [syS]
    rw [if_pos ek.symm, if_neg (by rw [hO]; omega), p1, p2, p3, TK_O gk.1, o3, WL_TK gk.1, CL_TK gk.1, o1, o2, hO]
    have e1 : ((d : Int)).toNat = d := by omega
    have e2 : (((d + 1 : Nat) : Int)).toNat = d + 1 := by omega
    rw [e1, e2]
/-- six brackets are open -/
theorem XA_full {σ0 σ : am_S} {m : Nat} (h : XA σ0 σ 0) (hz : pF σ = 0) (hk : kdT σ = 6) (hO : pO σ = 6) (hB : sb_ok BB SH σ) : XA σ0 (failS 2 σ) m := by
  have ok := failS_ok hB (k := 2) ⟨by decide, by decide⟩
  have f := failS_F (k := 2) hz ⟨by decide, by decide⟩
  refine XA_go h hz wX_f (fun b Z t0 t v r hR => ⟨wVR_TK v ok.1, Or.inr (xF_of hR (m := 5) (k := 2) ?_ r.1.1 (Or.inr ⟨rfl, rfl⟩) f.1 (f.2.trans (pl_of v r)))⟩)
  have ek := kd_of v r
  simp only [syS]
  rw [if_pos (by omega), if_pos (Or.inl (by rw [hO]; rfl))]
/-- a unit -/
theorem XA_unit {σ0 σ : am_S} (h : XA σ0 σ 0) (hk : ¬ (pF σ = 0 ∧ kdT σ = 6)) (hB : sb_ok BB SH σ) (hc : pC σ ≤ 839) (hc0 : 0 ≤ pC σ0 ∧ pC σ0 ≤ pC σ) : XA σ0 (unS σ) 1 := by
  by_cases hz : pF σ = 0
  · refine XA_go h hz wX_u (fun b Z t0 t v r hR => ?_)
    have ek := kd_of v r
    have kb := tkd_b (b := b) (Z := Z) (i := ps b Z t)
    have kb : 0 ≤ tK b Z t ∧ tK b Z t ≤ 38 := ⟨kb.1, kb.2.1⟩
    have tb := r.1.1
    have em : ∀ k x : Int, (k = 0 ∨ k = 1) → (-2147483648 ≤ x ∧ x < 2147483648) → (t < 400 → syS (tK b Z) (tV b Z) (0, t, WL σ, (pO σ).toNat, CL σ (pC σ0).toNat) = (1, t + 1, WL σ, (pO σ).toNat, CL σ (pC σ0).toNat ++ [(k, x)])) → (t = 400 → syS (tK b Z) (tV b Z) (0, t, WL σ, (pO σ).toNat, CL σ (pC σ0).toNat) = (5, t, [], 0, [])) → tK b Z t ≠ 0 → wVR b Z (goS (emS σ k x)) ∧ (xO b Z t0 (pC σ0).toNat (goS (emS σ k x)) 1 ∨ xF b Z t0 (goS (emS σ k x))) := by
      intro k x hk01 hx s1 s2 n0
      have hBe := emS_ok (v := x) hB (k := k) ⟨by omega, by omega⟩ hc
      have ve : wVR b Z (emS σ k x) := wVR_fr v (fun o i a c => emS_o (by omega) (by omega) (fun z => by omega)) (fun _ => rfl)
      have re : rOK b Z (emS σ k x) t := rOK_of r emS_T emS_F
      have gk := goS_ok hBe
      obtain ⟨v2, g⟩ := goS_t hBe ve re n0
      refine ⟨v2, ?_⟩
      rcases g with ⟨g1, g2, g3⟩ | ⟨g1, g2⟩
      · exact Or.inr (xF_of hR (m := 5) (k := 2) (s2 g1) tb (Or.inr ⟨rfl, rfl⟩) g2 g3)
      · refine Or.inl ⟨t + 1, g2, syR_t hR (syR_s ?_)⟩
        rw [s1 g1, WL_TK gk.1, CL_TK gk.1, TK_O gk.1, WL_em, CL_em ⟨by omega, by omega⟩ hx ⟨by omega, hc⟩, emS_O]
    unfold unS
    rw [ek]
    by_cases k2 : tK b Z t = 2
    · rw [if_pos ⟨hz, k2⟩, vl_of v r k2]
      have vb := tV_b k2
      refine em 0 (tV b Z t) (Or.inl rfl) ⟨by omega, by omega⟩ (fun q => ?_) (fun q => ?_) (by omega)
      · simp only [syS]
        rw [if_neg (by omega), if_pos k2, if_neg (by omega)]
      · simp only [syS]
        rw [if_neg (by omega), if_pos k2, if_pos q]
    · rw [if_neg (fun z => k2 z.2)]
      by_cases k3 : 30 ≤ tK b Z t ∧ tK b Z t ≤ 38
      · rw [if_pos ⟨hz, k3⟩]
        refine em 1 (tK b Z t - 30) (Or.inr rfl) ⟨by omega, by omega⟩ (fun q => ?_) (fun q => ?_) (by omega)
        · simp only [syS]
          rw [if_neg (by omega), if_neg k2, if_pos k3, if_neg (by omega)]
        · simp only [syS]
          rw [if_neg (by omega), if_neg k2, if_pos k3, if_pos q]
      · rw [if_neg (fun z => k3 z.2)]
        have ok := failS_ok hB (k := 1) ⟨by decide, by decide⟩
        have f := failS_F (k := 1) hz ⟨by decide, by decide⟩
        refine ⟨wVR_TK v ok.1, Or.inr (xF_of hR (m := 4) (k := 1) ?_ tb (Or.inl ⟨rfl, rfl⟩) f.1 (f.2.trans (pl_of v r)))⟩
        simp only [syS]
        rw [if_neg (fun z => hk ⟨hz, ek.trans z⟩), if_neg k2, if_neg k3]
  · unfold unS
    rw [if_neg (fun z => hz z.1), if_neg (fun z => hz z.1), failS_z hz]
    exact XA_flt h hz (tks_r σ) rfl rfl
theorem coR_l {st : Int} {σ τ : am_S} (h : coR st σ τ) : pO τ = pO σ ∧ pF τ = pF σ ∧ pFp τ = pFp σ ∧ pT τ = pT σ ∧ tks σ τ ∧ (∀ i, τ.1 54 i = σ.1 54 i) := by
  obtain ⟨j, h1, h2, h3, h4, h5, h6, h7, h8⟩ := h
  refine ⟨?_, ?_, ?_, ?_, ⟨fun o i a c => h7 _ _ (by omega) (by omega) (fun z => by omega), fun i => by rw [h8], h7 _ _ (by decide) (by decide) (by decide), h7 _ _ (by decide) (by decide) (by decide)⟩, fun i => h7 _ _ (by decide) (by decide) (fun z => absurd z.1 (by decide))⟩
  · unfold pO; rw [h7 _ _ (by decide) (by decide) (by decide)]
  · unfold pF; rw [h7 _ _ (by decide) (by decide) (by decide)]
  · unfold pFp; rw [h7 _ _ (by decide) (by decide) (by decide)]
  · unfold pT; rw [h7 _ _ (by decide) (by decide) (by decide)]
theorem wtS_l {σ : am_S} (hB : sb_ok BB SH σ) (hw : 0 < pW σ) : WL (wtS σ) = (WL σ).tail ∧ (∀ c, CL (wtS σ) c = CL σ c) ∧ pO (wtS σ) = pO σ ∧ pF (wtS σ) = pF σ ∧ pFp (wtS σ) = pFp σ ∧ pT (wtS σ) = pT σ ∧ tks σ (wtS σ) := by
  have wb := pW_b hB
  have ef : ∀ i, i ≠ 41 → (wtS σ).1 51 i = σ.1 51 i := fun i q => pi_n _ _ _ _ (fun z => q z.2)
  have ea : ∀ o i, o ≠ 51 → (wtS σ).1 o i = σ.1 o i := fun o i q => pi_n _ _ _ _ (fun z => q z.1)
  have eW : pW (wtS σ) = pW σ - 1 := by
    show ((am_pi σ 51 41 (Int32.ofInt (pW σ - 1))).1 51 41).toInt = _
    rw [pi_s, ii_t (by omega) (by omega)]
  refine ⟨?_, fun c => ?_, ?_, ?_, ?_, ?_, fun o i a c => ea o i (by omega), fun _ => rfl, ef _ (by decide), ef _ (by decide)⟩
  · rw [WL_pop hw]
    unfold WL
    rw [eW]
    exact WLn_of (fun i _ => by unfold sw; rw [ea _ _ (by decide)])
  · unfold CL
    rw [wtS_C]
    exact CLn_of (fun i _ _ => ⟨by unfold cd; rw [ea _ _ (by decide)], by unfold cI; rw [ea _ _ (by decide)]⟩)
  · unfold pO; rw [ef _ (by decide)]
  · unfold pF; rw [ef _ (by decide)]
  · unfold pFp; rw [ef _ (by decide)]
  · unfold pT; rw [ef _ (by decide)]
/-- a bracket closes -/
theorem XA_close {σ0 σ τ υ : am_S} {d : Nat} (h : XA σ0 σ 1) (hz : pF σ = 0) (hk : kdT σ = 7) (hO : pO σ = (d : Int)) (hd : 0 < d ∧ d ≤ 7) (hco : coR 0 σ τ) (hX : ∀ c : Nat, (c : Int) ≤ pC σ → syF false (WL σ) (CL σ c) = (WL τ, CL τ c)) (hBt : sb_ok BB SH τ) (hw : 0 < pW τ) (hc : 0 ≤ pC σ0 ∧ pC σ0 ≤ pC σ) (hB : sb_ok BB SH (am_pi (wtS τ) 51 12 (Int32.ofInt ((d - 1 : Nat) : Int)))) (eυ : υ = goS (am_pi (wtS τ) 51 12 (Int32.ofInt ((d - 1 : Nat) : Int)))) : XA σ0 υ 1 := by
  obtain ⟨c1, c2, c3, c4, c5, _⟩ := coR_l hco
  obtain ⟨w1, w2, w3, w4, w5, w6, w7⟩ := wtS_l hBt hw
  obtain ⟨o1, o2, o3, o4, o5, o6, o7⟩ := opS_l (σ := wtS τ) (x := ((d - 1 : Nat) : Int)) ⟨by omega, by omega⟩
  obtain ⟨u, eu⟩ : ∃ u, u = am_pi (wtS τ) 51 12 (Int32.ofInt ((d - 1 : Nat) : Int)) := ⟨_, rfl⟩
  rw [← eu] at o1 o2 o3 o4 o5 o6 o7 hB eυ
  have gk := goS_ok hB
  rw [← eυ] at gk
  have hX := hX (pC σ0).toNat (by omega)
  refine XA_go h hz (wX_t c5.2.2 (wX_t w7.2.2 (wX_t o7.2.2 (by rw [eυ]; exact wX_g)))) (fun b Z t0 t v r hR => ?_)
  have ek := kd_of v r
  rw [hk] at ek
  have tb := r.1.1
  have vu : wVR b Z u := wVR_tks (wVR_tks (wVR_tks v c5) w7) o7
  obtain ⟨v2, g⟩ := goS_t hB vu (rOK_of r (o6.trans (w6.trans c4)) (o4.trans (w4.trans c2))) (by rw [← ek]; decide)
  rw [← eυ] at v2 g
  refine ⟨v2, ?_⟩
  have d0 : 0 < (pO σ).toNat := by rw [hO]; omega
  rcases g with ⟨g1, g2, g3⟩ | ⟨g1, g2⟩
  · refine Or.inr (xF_of hR (m := 5) (k := 2) ?_ tb (Or.inr ⟨rfl, rfl⟩) g2 g3)
    simp only [syS]
    rw [if_pos ⟨ek.symm, d0⟩, if_pos g1]
  · refine Or.inl ⟨t + 1, g2, syR_t hR (syR_s ?_)⟩
    simp only [syS]
    rw [if_pos ⟨ek.symm, d0⟩, if_neg (by omega), hX, WL_TK gk.1, CL_TK gk.1, TK_O gk.1, o1, o2, o3, w1, w2, hO]
    have e1 : ((d : Int)).toNat - 1 = ((d - 1 : Nat) : Int).toNat := by omega
    rw [e1]
/-- a sign -/
theorem XA_op {σ0 σ τ υ : am_S} {s : Int} (h : XA σ0 σ 1) (hz : pF σ = 0) (hk : kdT σ = 8 ∨ kdT σ = 9 ∨ kdT σ = 10 ∨ kdT σ = 15) (hs : s = 1 ↔ (kdT σ = 10 ∨ kdT σ = 15)) (hco : coR s σ τ) (hX : ∀ c : Nat, (c : Int) ≤ pC σ → syF (decide (s = 1)) (WL σ) (CL σ c) = (WL τ, CL τ c)) (hBt : sb_ok BB SH τ) (hw : pW τ ≤ 63) (hc : 0 ≤ pC σ0 ∧ pC σ0 ≤ pC σ) (hB : sb_ok BB SH (psS τ (kdT σ))) (eυ : υ = goS (psS τ (kdT σ))) : XA σ0 υ 0 := by
  obtain ⟨c1, c2, c3, c4, c5, _⟩ := coR_l hco
  obtain ⟨p1, p2, p3, p4, p5, p6, p7⟩ := psS_l (k := kdT σ) hBt hw ⟨by omega, by omega⟩
  obtain ⟨u, eu⟩ : ∃ u, u = psS τ (kdT σ) := ⟨_, rfl⟩
  rw [← eu] at p1 p2 p3 p4 p5 p6 p7 hB eυ
  have gk := goS_ok hB
  rw [← eυ] at gk
  have hX := hX (pC σ0).toNat (by omega)
  refine XA_go h hz (wX_t c5.2.2 (wX_t p7.2.2 (by rw [eυ]; exact wX_g))) (fun b Z t0 t v r hR => ?_)
  have ek := kd_of v r
  have tb := r.1.1
  have es : decide (s = 1) = decide (tK b Z t = 10 ∨ tK b Z t = 15) := by
    rw [← ek]
    exact decide_eq_decide.mpr hs
  rw [es] at hX
  obtain ⟨v2, g⟩ := goS_t hB (wVR_tks (wVR_tks v c5) p7) (rOK_of r (p6.trans c4) (p4.trans c2)) (by rw [← ek]; omega)
  rw [← eυ] at v2 g
  refine ⟨v2, ?_⟩
  rcases g with ⟨g1, g2, g3⟩ | ⟨g1, g2⟩
  · refine Or.inr (xF_of hR (m := 5) (k := 2) ?_ tb (Or.inr ⟨rfl, rfl⟩) g2 g3)
    simp only [syS]
    rw [if_neg (by omega), if_pos (by omega), if_pos g1]
  · refine Or.inl ⟨t + 1, g2, syR_t hR (syR_s ?_)⟩
    simp only [syS]
    rw [if_neg (by omega), if_pos (by omega), if_neg (by omega), hX, WL_TK gk.1, CL_TK gk.1, TK_O gk.1, p1, p2, p3, c1, ek]
/-- something else, and brackets are open -/
theorem XA_left {σ0 σ : am_S} {m : Nat} (h : XA σ0 σ 1) (hn : pF σ = 0 → kdT σ ≠ 7 ∧ ¬ (kdT σ = 8 ∨ kdT σ = 9 ∨ kdT σ = 10 ∨ kdT σ = 15)) (hO : pF σ = 0 → 0 < pO σ) (hB : sb_ok BB SH σ) : XA σ0 (failS 1 σ) m := by
  by_cases hz : pF σ = 0
  · have ok := failS_ok hB (k := 1) ⟨by decide, by decide⟩
    have f := failS_F (k := 1) hz ⟨by decide, by decide⟩
    obtain ⟨n1, n2⟩ := hn hz
    have d0 := hO hz
    refine XA_go h hz wX_f (fun b Z t0 t v r hR => ⟨wVR_TK v ok.1, Or.inr (xF_of hR (m := 4) (k := 1) ?_ r.1.1 (Or.inl ⟨rfl, rfl⟩) f.1 (f.2.trans (pl_of v r)))⟩)
    have ek := kd_of v r
    rw [ek] at n1 n2
    simp only [syS]
    rw [if_neg (fun z => n1 z.1), if_neg n2, if_pos (by omega)]
  · rw [failS_z hz]
    exact XA_flt h hz (tks_r σ) rfl rfl
/-- the end -/
theorem XE_end {σ0 σ τ : am_S} (h : XA σ0 σ 1) (hn : pF σ = 0 → ¬ (kdT σ = 7 ∧ 0 < pO σ) ∧ ¬ (kdT σ = 8 ∨ kdT σ = 9 ∨ kdT σ = 10 ∨ kdT σ = 15)) (hO : pF σ = 0 → pO σ = 0) (hco : coR 0 σ τ) (hX : ∀ c : Nat, (c : Int) ≤ pC σ → syF false (WL σ) (CL σ c) = (WL τ, CL τ c)) (hc : 0 ≤ pC σ0 ∧ pC σ0 ≤ pC σ) : XE σ0 τ := by
  obtain ⟨c1, c2, c3, c4, c5, _⟩ := coR_l hco
  by_cases hz : pF σ = 0
  · have hX := hX (pC σ0).toNat (by omega)
    obtain ⟨n1, n2⟩ := hn hz
    have d0 := hO hz
    refine ⟨wX_t h.1 c5.2.2, fun b Z t0 h0 => ?_⟩
    obtain ⟨v, h1⟩ := h.2 b Z t0 h0
    refine ⟨wVR_tks v c5, Or.inl ?_⟩
    rcases h1 with ⟨t, r, hR⟩ | ⟨t', k, h1, h2, h3, h4⟩
    · have ek := kd_of v r
      rw [ek] at n1 n2
      refine ⟨t, rOK_of r c4 c2, syE_of (syR_t hR (syR_s ?_)) (Nat.le_refl _) h0.2.1.1⟩
      simp only [syS]
      rw [if_neg (fun z => n1 ⟨z.1, by omega⟩), if_neg n2, if_neg (by omega), hX]
    · exfalso
      rcases h2 with ⟨_, q⟩ | ⟨_, q⟩ <;> omega
  · exact XE_flt (XA_flt (m' := 1) h hz c5 c2 c3) (by rw [c2]; exact hz)
/-- the start -/
theorem XA_start {σ τ : am_S} (hk : tks σ τ) (h1 : pT τ = pT σ) (h2 : pF τ = pF σ) (hW : pW τ = 0) (hO : pO τ = 0) (hC : pC τ = pC σ) (hc : 0 ≤ pC σ) : XA σ τ 0 := by
  refine ⟨hk.2.2, fun b Z t0 h0 => ?_⟩
  obtain ⟨v, r⟩ := h0
  refine ⟨wVR_tks v hk, Or.inl ⟨t0, rOK_of r h1 h2, ?_⟩⟩
  have e1 : WL τ = [] := by unfold WL; rw [hW]; rfl
  have e2 : CL τ (pC σ).toNat = [] := by
    unfold CL
    rw [hC, show (pC σ - ((pC σ).toNat : Int)).toNat = 0 by omega]
    rfl
  rw [e1, e2, hO]
  exact syR_r _
