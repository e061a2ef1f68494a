/-! HOW AN EXPRESSION IS READ: a machine of small steps. K: the tokens' kinds, V: their numbers. Printed from wip/am/chk/hand/v1.in. -/
/-- mode (0: a unit is due, 1: one was read, 2: done, 4, 5: a fault 1, 2), token, signs that wait (the last first), how many are open, codes -/
abbrev SY : Type := Nat × Nat × List Int × Nat × List (Int × Int)
def syO (w : Int) : Int := if w = 8 then 2 else if w = 9 then 3 else if w = 10 then 4 else 5
/-- signs that come out -/
def syF (s : Bool) : List Int → List (Int × Int) → List Int × List (Int × Int)
  | [], c => ([], c)
  | w :: W, c => if w = 6 ∨ (s = true ∧ (w = 8 ∨ w = 9)) then (w :: W, c) else syF s W (c ++ [(syO w, 0)])
def syS (K V : Nat → Int) (q : SY) : SY := match q with
  | (0, t, W, d, c) => if K t = 6 then (if d = 6 ∨ t = 400 then (5, t, [], 0, []) else (0, t + 1, 6 :: W, d + 1, c)) else if K t = 2 then (if t = 400 then (5, t, [], 0, []) else (1, t + 1, W, d, c ++ [(0, V t)])) else if 30 ≤ K t ∧ K t ≤ 38 then (if t = 400 then (5, t, [], 0, []) else (1, t + 1, W, d, c ++ [(1, K t - 30)])) else (4, t, [], 0, [])
  | (1, t, W, d, c) => if K t = 7 ∧ 0 < d then (if t = 400 then (5, t, [], 0, []) else (1, t + 1, (syF false W c).1.tail, d - 1, (syF false W c).2)) else if K t = 8 ∨ K t = 9 ∨ K t = 10 ∨ K t = 15 then (if t = 400 then (5, t, [], 0, []) else (0, t + 1, K t :: (syF (decide (K t = 10 ∨ K t = 15)) W c).1, d, (syF (decide (K t = 10 ∨ K t = 15)) W c).2)) else if 0 < d then (4, t, [], 0, []) else (2, t, [], 0, (syF false W c).2)
  | q => q
def syI (K V : Nat → Int) : Nat → SY → SY
  | 0, q => q
  | n + 1, q => syI K V n (syS K V q)
/-- it comes to r -/
def syR (K V : Nat → Int) (q r : SY) : Prop := ∃ n, syI K V n q = r
theorem syI_add {K V : Nat → Int} : ∀ (n m : Nat) (q : SY), syI K V (n + m) q = syI K V m (syI K V n q)
  | 0, m, q => by rw [Nat.zero_add]; rfl
  | n + 1, m, q => by
    rw [show n + 1 + m = (n + m) + 1 by omega]
    exact syI_add n m (syS K V q)
theorem syR_r {K V : Nat → Int} (q : SY) : syR K V q q := ⟨0, rfl⟩
theorem syR_t {K V : Nat → Int} {q r s : SY} (h : syR K V q r) (g : syR K V r s) : syR K V q s := by
  obtain ⟨n, rfl⟩ := h
  obtain ⟨m, rfl⟩ := g
  exact ⟨n + m, syI_add n m q⟩
theorem syR_s {K V : Nat → Int} {q r : SY} (h : syS K V q = r) : syR K V q r := ⟨1, h⟩
theorem syS_fin {K V : Nat → Int} {q : SY} (h : 2 ≤ q.1) : syS K V q = q := by
  obtain ⟨m, t, W, d, c⟩ := q
  match m, h with
  | m + 2, _ => rfl
theorem syI_fin {K V : Nat → Int} {q : SY} (h : 2 ≤ q.1) : ∀ n, syI K V n q = q
  | 0 => rfl
  | n + 1 => by
    show syI K V n (syS K V q) = q
    rw [syS_fin h]
    exact syI_fin h n
/-- where it ends, it ends alone -/
theorem syR_u {K V : Nat → Int} {q r s : SY} (h : syR K V q r) (g : syR K V q s) (hr : 2 ≤ r.1) (hs : 2 ≤ s.1) : r = s := by
  obtain ⟨n, rfl⟩ := h
  obtain ⟨m, rfl⟩ := g
  have a := syI_add (K := K) (V := V) n m q
  rw [syI_fin hr] at a
  have b := syI_add (K := K) (V := V) m n q
  rw [syI_fin hs] at b
  rw [← a, Nat.add_comm, b]
theorem syF_app (s : Bool) : ∀ (W : List Int) (c : List (Int × Int)), (∀ w ∈ W, w ≠ 6 ∧ (s = true → w ≠ 8 ∧ w ≠ 9)) → ∀ W', (match W' with
  | [] => True
  | w :: _ => w = 6 ∨ (s = true ∧ (w = 8 ∨ w = 9))) → syF s (W ++ W') c = (W', c ++ W.map (fun w => (syO w, 0)))
  | [], c, _, W', h' => by
    rw [List.nil_append, List.map_nil, List.append_nil]
    cases W' with
    | nil => rfl
    | cons w t =>
      simp only [syF]
      rw [if_pos h']
  | w :: W, c, h, W', h' => by
    have hw := h w List.mem_cons_self
    rw [List.cons_append]
    simp only [syF]
    rw [if_neg (fun z => by
      rcases z with z | ⟨z1, z2⟩
      · exact hw.1 z
      · have := hw.2 z1
        rcases z2 with z2 | z2
        · exact this.1 z2
        · exact this.2 z2)]
    rw [syF_app s W _ (fun v hv => h v (List.mem_cons_of_mem _ hv)) W' h']
    rw [List.map_cons, List.append_assoc]
    rfl
/-- what an expression comes to, from token t on -/
def syE (K V : Nat → Int) (t : Nat) : SY := syI K V 900 (0, t, [], 0, [])
theorem syS_t {K V : Nat → Int} {q : SY} (ht : q.2.1 ≤ 400) : (syS K V q).2.1 ≤ 400 ∧ (2 ≤ (syS K V q).1 ∨ (syS K V q).2.1 = q.2.1 + 1) := by
  obtain ⟨m, t, W, d, c⟩ := q
  match m with
  | 0 =>
    simp only [syS]
    simp only at ht
    repeat' split
    all_goals first
    | exact ⟨by show t + 1 ≤ 400; omega, Or.inr rfl⟩
    | exact ⟨by show t ≤ 400; omega, Or.inl (Nat.le_of_ble_eq_true rfl)⟩
  | 1 =>
    simp only [syS]
    simp only at ht
    repeat' split
    all_goals first
    | exact ⟨by show t + 1 ≤ 400; omega, Or.inr rfl⟩
    | exact ⟨by show t ≤ 400; omega, Or.inl (Nat.le_of_ble_eq_true rfl)⟩
  | m + 2 => exact ⟨ht, Or.inl (by show 2 ≤ m + 2; omega)⟩
theorem syI_end {K V : Nat → Int} : ∀ (n : Nat) (q : SY), q.2.1 ≤ 400 → 401 ≤ n + q.2.1 → 2 ≤ (syI K V n q).1
  | 0, q, h, h2 => absurd h2 (by omega)
  | n + 1, q, h, h2 => by
    show 2 ≤ (syI K V n (syS K V q)).1
    obtain ⟨a, b⟩ := syS_t (K := K) (V := V) h
    rcases b with b | b
    · rw [syI_fin b]; exact b
    · exact syI_end n _ a (by omega)
theorem syE_fin {K V : Nat → Int} {t : Nat} (h : t ≤ 400) : 2 ≤ (syE K V t).1 := syI_end 900 _ h (by show 401 ≤ 900 + t; omega)
/-- what it comes to is the end -/
theorem syE_of {K V : Nat → Int} {t : Nat} {r : SY} (h : syR K V (0, t, [], 0, []) r) (hr : 2 ≤ r.1) (ht : t ≤ 400) : syE K V t = r := syR_u ⟨900, rfl⟩ h (syE_fin ht) hr
/-! THE CLASS'S READER, step by step: where it looks, its faults. Printed from wip/am/chk/hand/v2.in. -/
theorem dX5_fail_0 : decode cX5_fail 0 = .ok (.aload_n 0, 1) := dk_ok (by decide +kernel)
theorem dX5_fail_1 : decode cX5_fail 1 = .ok (.getfield 43, 3) := dk_ok (by decide +kernel)
theorem dX5_fail_4 : decode cX5_fail 4 = .ok (.ifCond .ne 21, 3) := dk_ok (by decide +kernel)
theorem dX5_fail_7 : decode cX5_fail 7 = .ok (.aload_n 0, 1) := dk_ok (by decide +kernel)
theorem dX5_fail_8 : decode cX5_fail 8 = .ok (.iload_n 1, 1) := dk_ok (by decide +kernel)
theorem dX5_fail_9 : decode cX5_fail 9 = .ok (.putfield 43, 3) := dk_ok (by decide +kernel)
theorem dX5_fail_12 : decode cX5_fail 12 = .ok (.aload_n 0, 1) := dk_ok (by decide +kernel)
theorem dX5_fail_13 : decode cX5_fail 13 = .ok (.aload_n 0, 1) := dk_ok (by decide +kernel)
theorem dX5_fail_14 : decode cX5_fail 14 = .ok (.getfield 36, 3) := dk_ok (by decide +kernel)
theorem dX5_fail_17 : decode cX5_fail 17 = .ok (.putfield 46, 3) := dk_ok (by decide +kernel)
theorem dX5_fail_20 : decode cX5_fail 20 = .ok (.aload_n 0, 1) := dk_ok (by decide +kernel)
theorem dX5_fail_21 : decode cX5_fail 21 = .ok (.iconst 1, 1) := dk_ok (by decide +kernel)
theorem dX5_fail_22 : decode cX5_fail 22 = .ok (.putfield 33, 3) := dk_ok (by decide +kernel)
theorem dX5_fail_25 : decode cX5_fail 25 = .ok (.return_, 1) := dk_ok (by decide +kernel)
theorem dX5_note_0 : decode cX5_note 0 = .ok (.aload_n 0, 1) := dk_ok (by decide +kernel)
theorem dX5_note_1 : decode cX5_note 1 = .ok (.getfield 49, 3) := dk_ok (by decide +kernel)
theorem dX5_note_4 : decode cX5_note 4 = .ok (.ifCond .ne 13, 3) := dk_ok (by decide +kernel)
theorem dX5_note_7 : decode cX5_note 7 = .ok (.aload_n 0, 1) := dk_ok (by decide +kernel)
theorem dX5_note_8 : decode cX5_note 8 = .ok (.iload_n 1, 1) := dk_ok (by decide +kernel)
theorem dX5_note_9 : decode cX5_note 9 = .ok (.putfield 49, 3) := dk_ok (by decide +kernel)
theorem dX5_note_12 : decode cX5_note 12 = .ok (.aload_n 0, 1) := dk_ok (by decide +kernel)
theorem dX5_note_13 : decode cX5_note 13 = .ok (.iload_n 2, 1) := dk_ok (by decide +kernel)
theorem dX5_note_14 : decode cX5_note 14 = .ok (.putfield 52, 3) := dk_ok (by decide +kernel)
theorem dX5_note_17 : decode cX5_note 17 = .ok (.return_, 1) := dk_ok (by decide +kernel)
theorem dX5_take_0 : decode cX5_take 0 = .ok (.aload_n 0, 1) := dk_ok (by decide +kernel)
theorem dX5_take_1 : decode cX5_take 1 = .ok (.getfield 33, 3) := dk_ok (by decide +kernel)
theorem dX5_take_4 : decode cX5_take 4 = .ok (.iload_n 1, 1) := dk_ok (by decide +kernel)
theorem dX5_take_5 : decode cX5_take 5 = .ok (.if_icmp .eq 11, 3) := dk_ok (by decide +kernel)
theorem dX5_take_8 : decode cX5_take 8 = .ok (.aload_n 0, 1) := dk_ok (by decide +kernel)
theorem dX5_take_9 : decode cX5_take 9 = .ok (.iconst 1, 1) := dk_ok (by decide +kernel)
theorem dX5_take_10 : decode cX5_take 10 = .ok (.invokevirtual 81, 3) := dk_ok (by decide +kernel)
theorem dX5_take_13 : decode cX5_take 13 = .ok (.goto 76, 3) := dk_ok (by decide +kernel)
theorem dX5_take_16 : decode cX5_take 16 = .ok (.aload_n 0, 1) := dk_ok (by decide +kernel)
theorem dX5_take_17 : decode cX5_take 17 = .ok (.getfield 29, 3) := dk_ok (by decide +kernel)
theorem dX5_take_20 : decode cX5_take 20 = .ok (.sipush 400, 3) := dk_ok (by decide +kernel)
theorem dX5_take_23 : decode cX5_take 23 = .ok (.if_icmp .lt 11, 3) := dk_ok (by decide +kernel)
theorem dX5_take_26 : decode cX5_take 26 = .ok (.aload_n 0, 1) := dk_ok (by decide +kernel)
theorem dX5_take_27 : decode cX5_take 27 = .ok (.iconst 2, 1) := dk_ok (by decide +kernel)
theorem dX5_take_28 : decode cX5_take 28 = .ok (.invokevirtual 81, 3) := dk_ok (by decide +kernel)
theorem dX5_take_31 : decode cX5_take 31 = .ok (.goto 58, 3) := dk_ok (by decide +kernel)
theorem dX5_take_34 : decode cX5_take 34 = .ok (.aload_n 0, 1) := dk_ok (by decide +kernel)
theorem dX5_take_35 : decode cX5_take 35 = .ok (.dup, 1) := dk_ok (by decide +kernel)
theorem dX5_take_36 : decode cX5_take 36 = .ok (.getfield 29, 3) := dk_ok (by decide +kernel)
theorem dX5_take_39 : decode cX5_take 39 = .ok (.iconst 1, 1) := dk_ok (by decide +kernel)
theorem dX5_take_40 : decode cX5_take 40 = .ok (.iadd, 1) := dk_ok (by decide +kernel)
theorem dX5_take_41 : decode cX5_take 41 = .ok (.putfield 29, 3) := dk_ok (by decide +kernel)
theorem dX5_take_44 : decode cX5_take 44 = .ok (.aload_n 0, 1) := dk_ok (by decide +kernel)
theorem dX5_take_45 : decode cX5_take 45 = .ok (.aload_n 0, 1) := dk_ok (by decide +kernel)
theorem dX5_take_46 : decode cX5_take 46 = .ok (.getfield 21, 3) := dk_ok (by decide +kernel)
theorem dX5_take_49 : decode cX5_take 49 = .ok (.aload_n 0, 1) := dk_ok (by decide +kernel)
theorem dX5_take_50 : decode cX5_take 50 = .ok (.getfield 29, 3) := dk_ok (by decide +kernel)
theorem dX5_take_53 : decode cX5_take 53 = .ok (.invokevirtual 62, 3) := dk_ok (by decide +kernel)
theorem dX5_take_56 : decode cX5_take 56 = .ok (.putfield 33, 3) := dk_ok (by decide +kernel)
theorem dX5_take_59 : decode cX5_take 59 = .ok (.aload_n 0, 1) := dk_ok (by decide +kernel)
theorem dX5_take_60 : decode cX5_take 60 = .ok (.aload_n 0, 1) := dk_ok (by decide +kernel)
theorem dX5_take_61 : decode cX5_take 61 = .ok (.getfield 21, 3) := dk_ok (by decide +kernel)
theorem dX5_take_64 : decode cX5_take 64 = .ok (.aload_n 0, 1) := dk_ok (by decide +kernel)
theorem dX5_take_65 : decode cX5_take 65 = .ok (.getfield 29, 3) := dk_ok (by decide +kernel)
theorem dX5_take_68 : decode cX5_take 68 = .ok (.invokevirtual 66, 3) := dk_ok (by decide +kernel)
theorem dX5_take_71 : decode cX5_take 71 = .ok (.putfield 36, 3) := dk_ok (by decide +kernel)
theorem dX5_take_74 : decode cX5_take 74 = .ok (.aload_n 0, 1) := dk_ok (by decide +kernel)
theorem dX5_take_75 : decode cX5_take 75 = .ok (.aload_n 0, 1) := dk_ok (by decide +kernel)
theorem dX5_take_76 : decode cX5_take 76 = .ok (.getfield 21, 3) := dk_ok (by decide +kernel)
theorem dX5_take_79 : decode cX5_take 79 = .ok (.aload_n 0, 1) := dk_ok (by decide +kernel)
theorem dX5_take_80 : decode cX5_take 80 = .ok (.getfield 29, 3) := dk_ok (by decide +kernel)
theorem dX5_take_83 : decode cX5_take 83 = .ok (.invokevirtual 69, 3) := dk_ok (by decide +kernel)
theorem dX5_take_86 : decode cX5_take 86 = .ok (.putfield 39, 3) := dk_ok (by decide +kernel)
theorem dX5_take_89 : decode cX5_take 89 = .ok (.aload_n 0, 1) := dk_ok (by decide +kernel)
theorem dX5_take_90 : decode cX5_take 90 = .ok (.getfield 43, 3) := dk_ok (by decide +kernel)
theorem dX5_take_93 : decode cX5_take 93 = .ok (.ifCond .ne 7, 3) := dk_ok (by decide +kernel)
theorem dX5_take_96 : decode cX5_take 96 = .ok (.iconst 1, 1) := dk_ok (by decide +kernel)
theorem dX5_take_97 : decode cX5_take 97 = .ok (.goto 4, 3) := dk_ok (by decide +kernel)
theorem dX5_take_100 : decode cX5_take 100 = .ok (.iconst 0, 1) := dk_ok (by decide +kernel)
theorem dX5_take_101 : decode cX5_take 101 = .ok (.ireturn, 1) := dk_ok (by decide +kernel)
theorem dX5_goesOn_0 : decode cX5_goesOn 0 = .ok (.aload_n 0, 1) := dk_ok (by decide +kernel)
theorem dX5_goesOn_1 : decode cX5_goesOn 1 = .ok (.getfield 43, 3) := dk_ok (by decide +kernel)
theorem dX5_goesOn_4 : decode cX5_goesOn 4 = .ok (.ifCond .ne 14, 3) := dk_ok (by decide +kernel)
theorem dX5_goesOn_7 : decode cX5_goesOn 7 = .ok (.aload_n 0, 1) := dk_ok (by decide +kernel)
theorem dX5_goesOn_8 : decode cX5_goesOn 8 = .ok (.getfield 33, 3) := dk_ok (by decide +kernel)
theorem dX5_goesOn_11 : decode cX5_goesOn 11 = .ok (.ifCond .eq 7, 3) := dk_ok (by decide +kernel)
theorem dX5_goesOn_14 : decode cX5_goesOn 14 = .ok (.iconst 1, 1) := dk_ok (by decide +kernel)
theorem dX5_goesOn_15 : decode cX5_goesOn 15 = .ok (.goto 4, 3) := dk_ok (by decide +kernel)
theorem dX5_goesOn_18 : decode cX5_goesOn 18 = .ok (.iconst 0, 1) := dk_ok (by decide +kernel)
theorem dX5_goesOn_19 : decode cX5_goesOn 19 = .ok (.ireturn, 1) := dk_ok (by decide +kernel)

def sX8_kindOfE : am_Sp := fun as n σ post => n = 92 ∧ ∃ (b : Nat → Int) (Z j : Nat), j ≤ 400 ∧ cS σ ≤ 402 ∧ cC b Z σ j ∧ as = [.ref 14, .int (Int32.ofInt (j : Int))] ∧ post (some (.int (Int32.ofInt (ck (tK b Z j))))) σ
def xX8_kindOfE : am_X := (SH, KF, (some .int), FT_X8, PT_X8, CT_X8, KT_X8, LT_X8, NT_X8, [])
theorem xX8_kindOfE_SH : am_SH xX8_kindOfE = SH := rfl
theorem xX8_kindOfE_KF : am_KF xX8_kindOfE = KF := rfl
theorem xX8_kindOfE_rt : am_rt xX8_kindOfE = (some .int) := rfl
theorem xX8_kindOfE_FT : am_FT xX8_kindOfE = FT_X8 := rfl
theorem xX8_kindOfE_PT : am_PT xX8_kindOfE = PT_X8 := rfl
theorem xX8_kindOfE_CT : am_CT xX8_kindOfE = CT_X8 := rfl
theorem xX8_kindOfE_KT : am_KT xX8_kindOfE = KT_X8 := rfl
theorem xX8_kindOfE_LT : am_LT xX8_kindOfE = LT_X8 := rfl
theorem xX8_kindOfE_NT : am_NT xX8_kindOfE = NT_X8 := rfl
theorem xX8_kindOfE_t1 (k : Nat → Prop) : am_tg 1 (29) k = k 30 := am_tg_eq (by decide)
theorem xX8_kindOfE_t9 (k : Nat → Prop) : am_tg 9 (21) k = k 30 := am_tg_eq (by decide)
theorem xX8_kindOfE_t18 (k : Nat → Prop) : am_tg 18 (12) k = k 30 := am_tg_eq (by decide)
theorem xX8_kindOfE_t27 (k : Nat → Prop) : am_tg 27 (4) k = k 31 := am_tg_eq (by decide)

theorem ptX8_kindOfE : am_B cX8_kindOf xX8_kindOfE 2 0 sX8_kindOfE := by
  intro n0 as σ post AA hA h
  obtain ⟨rfl, b, Z, j, hj, hs, ⟨c0, c1, c2, c3, c4⟩, rfl, h⟩ := h
  obtain ⟨kv, ekv⟩ : ∃ kv, kv = cS σ := ⟨_, rfl⟩
  have e1 : σ.1 14 4 = Int32.ofInt kv := by rw [ekv]; exact ii_of _
  refine ⟨by simp [am_sl, Value.category], ?_⟩
  show AA 0 [some (.ref 14), some (.int (Int32.ofInt (j : Int)))] [] 92 σ
  refine hA [] 20 _ _ _ _ _ ?_
  try simp only [dX8_kindOf_0, dX8_kindOf_1, xX8_kindOfE_t1, dX8_kindOf_4, dX8_kindOf_5, dX8_kindOf_6, FT_X8_23, dX8_kindOf_9, xX8_kindOfE_t9, dX8_kindOf_12, dX8_kindOf_13, dX8_kindOf_14, FT_X8_13, dX8_kindOf_17, dX8_kindOf_18, xX8_kindOfE_t18, dX8_kindOf_21, dX8_kindOf_22, dX8_kindOf_25, dX8_kindOf_26, dX8_kindOf_27, xX8_kindOfE_t27, dX8_kindOf_30, dX8_kindOf_31, xX8_kindOfE_SH, xX8_kindOfE_KF, xX8_kindOfE_rt, xX8_kindOfE_FT, xX8_kindOfE_PT, xX8_kindOfE_CT, xX8_kindOfE_KT, xX8_kindOfE_LT, xX8_kindOfE_NT, o_aload_n, o_arraylength, o_getfield, o_goto, o_iaload, o_iconst, o_ifCond_lt, o_if_icmp_ge, o_iload_n, o_ireturn, SH_14, KF_14_1, SH_16, KF_14_4, am_ty, am_vc, am_opt, am_cl, am_find, am_ldi, am_ldl, am_lda, am_v, am_1, am_1l, am_1a, am_2, am_2l, am_ix, am_ri, am_arr, am_pf, am_rc, am_mask, am_lg, am_av, am_nat, fv_0, fv_1, fv_2, fv_3, fw_0, fw_1, List.getElem?_cons_zero, List.getElem?_cons_succ, List.set_cons_zero, List.set_cons_succ, List.length_cons, List.length_nil, List.take_succ_cons, List.take_zero, List.drop_succ_cons, List.drop_zero, List.reverse_cons, List.reverse_nil, List.nil_append, List.cons_append, List.append_nil, List.map_cons, List.map_nil, List.sum_cons, List.sum_nil, Value.category, Option.toList_some, Option.toList_none, Nat.reduceAdd, Nat.reduceLT, Nat.reduceLeDiff, Nat.reduceEqDiff, Nat.reduceSub, Nat.add_zero, Nat.le_refl, Nat.zero_le, Int.reduceNeg, Int.reduceLE, Int.reduceLT, true_and, and_true, and_self, if_true, if_false, ite_true, ite_false, eq_self_iff_true, reduceIte, reduceCtorEq, not_false_eq_true, not_true_eq_false, or_true, true_or, or_false, false_or, Nat.lt_irrefl, Nat.zero_lt_succ, e1]
  try simp (disch := omega) only [ii_0, ii_1, ii_t, ii_add, ii_sub, ii_mul, ii_lt, ii_le, ii_eq, ij_in, ii_c, Int.toNat_natCast, Int.toNat_zero, Int.reduceToNat, Int.reduceEq, Int.reduceNe, Int.reduceLE, Int.reduceLT, Int.reduceAdd, Int.reduceSub, Int.reduceMul, Int.reduceNeg, Nat.reduceLT, Nat.reduceAdd, Nat.reduceMul, not_false_eq_true, not_true_eq_false, true_and, and_true, and_self, false_and, and_false, true_implies, false_implies, implies_true, forall_const, if_true, if_false, ite_true, ite_false, reduceIte, eq_self_iff_true, Int.natCast_nonneg, Int.zero_add, Int.add_zero, pi_s, pi_n, on_2000, on_402, on_408, on_19, on_5, on_4, e1, c1]
  exact ⟨fun q => absurd q (by omega), fun _ => ⟨fun q => absurd q (by omega), fun _ => ⟨fun q => absurd q (by omega), fun _ => ⟨by omega, h⟩⟩⟩⟩
theorem mX8_kindOfE (l : Launch) : am_M l TB NB vwCl SH KF yX8_kindOf cX8_kindOf 2 (some .int) 2 0 0 sX8_kindOfE := by
  refine am_M.of xX8_kindOfE (by decide +kernel) TB_good GF rfl rfl rfl (by decide) ⟨FT_X8_ok, PT_X8_ok _, CT_X8_ok, KT_X8_ok, LT_X8_ok, NT_X8_ok, ?_⟩ ptX8_kindOfE
  exact fun _ h => absurd h List.not_mem_nil

def sX8_placeOfE : am_Sp := fun as n σ post => n = 92 ∧ ∃ (b : Nat → Int) (Z j : Nat), j ≤ 400 ∧ cC b Z σ j ∧ as = [.ref 14, .int (Int32.ofInt (j : Int))] ∧ post (some (.int (Int32.ofInt (tP b Z j)))) σ
def xX8_placeOfE : am_X := (SH, KF, (some .int), FT_X8, PT_X8, CT_X8, KT_X8, LT_X8, NT_X8, [])
theorem xX8_placeOfE_SH : am_SH xX8_placeOfE = SH := rfl
theorem xX8_placeOfE_KF : am_KF xX8_placeOfE = KF := rfl
theorem xX8_placeOfE_rt : am_rt xX8_placeOfE = (some .int) := rfl
theorem xX8_placeOfE_FT : am_FT xX8_placeOfE = FT_X8 := rfl
theorem xX8_placeOfE_PT : am_PT xX8_placeOfE = PT_X8 := rfl
theorem xX8_placeOfE_CT : am_CT xX8_placeOfE = CT_X8 := rfl
theorem xX8_placeOfE_KT : am_KT xX8_placeOfE = KT_X8 := rfl
theorem xX8_placeOfE_LT : am_LT xX8_placeOfE = LT_X8 := rfl
theorem xX8_placeOfE_NT : am_NT xX8_placeOfE = NT_X8 := rfl
theorem xX8_placeOfE_t1 (k : Nat → Prop) : am_tg 1 (21) k = k 22 := am_tg_eq (by decide)
theorem xX8_placeOfE_t10 (k : Nat → Prop) : am_tg 10 (12) k = k 22 := am_tg_eq (by decide)
theorem xX8_placeOfE_t19 (k : Nat → Prop) : am_tg 19 (4) k = k 23 := am_tg_eq (by decide)

theorem ptX8_placeOfE : am_B cX8_placeOf xX8_placeOfE 2 0 sX8_placeOfE := by
  intro n0 as σ post AA hA h
  obtain ⟨rfl, b, Z, j, hj, ⟨c0, c1, c2, c3, c4⟩, rfl, h⟩ := h
  refine ⟨by simp [am_sl, Value.category], ?_⟩
  show AA 0 [some (.ref 14), some (.int (Int32.ofInt (j : Int)))] [] 92 σ
  refine hA [] 20 _ _ _ _ _ ?_
  try simp only [dX8_placeOf_0, dX8_placeOf_1, xX8_placeOfE_t1, dX8_placeOf_4, dX8_placeOf_5, dX8_placeOf_6, FT_X8_17, dX8_placeOf_9, dX8_placeOf_10, xX8_placeOfE_t10, dX8_placeOf_13, dX8_placeOf_14, dX8_placeOf_17, dX8_placeOf_18, dX8_placeOf_19, xX8_placeOfE_t19, dX8_placeOf_22, dX8_placeOf_23, xX8_placeOfE_SH, xX8_placeOfE_KF, xX8_placeOfE_rt, xX8_placeOfE_FT, xX8_placeOfE_PT, xX8_placeOfE_CT, xX8_placeOfE_KT, xX8_placeOfE_LT, xX8_placeOfE_NT, o_aload_n, o_arraylength, o_getfield, o_goto, o_iaload, o_iconst, o_ifCond_lt, o_if_icmp_ge, o_iload_n, o_ireturn, SH_14, KF_14_2, SH_17, am_ty, am_vc, am_opt, am_cl, am_find, am_ldi, am_ldl, am_lda, am_v, am_1, am_1l, am_1a, am_2, am_2l, am_ix, am_ri, am_arr, am_pf, am_rc, am_mask, am_lg, am_av, am_nat, fv_0, fv_1, fv_2, fv_3, fw_0, fw_1, List.getElem?_cons_zero, List.getElem?_cons_succ, List.set_cons_zero, List.set_cons_succ, List.length_cons, List.length_nil, List.take_succ_cons, List.take_zero, List.drop_succ_cons, List.drop_zero, List.reverse_cons, List.reverse_nil, List.nil_append, List.cons_append, List.append_nil, List.map_cons, List.map_nil, List.sum_cons, List.sum_nil, Value.category, Option.toList_some, Option.toList_none, Nat.reduceAdd, Nat.reduceLT, Nat.reduceLeDiff, Nat.reduceEqDiff, Nat.reduceSub, Nat.add_zero, Nat.le_refl, Nat.zero_le, Int.reduceNeg, Int.reduceLE, Int.reduceLT, true_and, and_true, and_self, if_true, if_false, ite_true, ite_false, eq_self_iff_true, reduceIte, reduceCtorEq, not_false_eq_true, not_true_eq_false, or_true, true_or, or_false, false_or, Nat.lt_irrefl, Nat.zero_lt_succ]
  try simp (disch := omega) only [ii_0, ii_1, ii_t, ii_add, ii_sub, ii_mul, ii_lt, ii_le, ii_eq, ij_in, ii_c, Int.toNat_natCast, Int.toNat_zero, Int.reduceToNat, Int.reduceEq, Int.reduceNe, Int.reduceLE, Int.reduceLT, Int.reduceAdd, Int.reduceSub, Int.reduceMul, Int.reduceNeg, Nat.reduceLT, Nat.reduceAdd, Nat.reduceMul, not_false_eq_true, not_true_eq_false, true_and, and_true, and_self, false_and, and_false, true_implies, false_implies, implies_true, forall_const, if_true, if_false, ite_true, ite_false, reduceIte, eq_self_iff_true, Int.natCast_nonneg, Int.zero_add, Int.add_zero, pi_s, pi_n, on_2000, on_402, on_408, on_19, on_5, on_4, c2]
  exact ⟨fun q => absurd q (by omega), fun _ => ⟨fun q => absurd q (by omega), fun _ => ⟨by omega, h⟩⟩⟩
theorem mX8_placeOfE (l : Launch) : am_M l TB NB vwCl SH KF yX8_placeOf cX8_placeOf 2 (some .int) 2 0 0 sX8_placeOfE := by
  refine am_M.of xX8_placeOfE (by decide +kernel) TB_good GF rfl rfl rfl (by decide) ⟨FT_X8_ok, PT_X8_ok _, CT_X8_ok, KT_X8_ok, LT_X8_ok, NT_X8_ok, ?_⟩ ptX8_placeOfE
  exact fun _ h => absurd h List.not_mem_nil

def sX8_worthOfE : am_Sp := fun as n σ post => n = 92 ∧ ∃ (j : Nat), j ≤ 400 ∧ as = [.ref 14, .int (Int32.ofInt (j : Int))] ∧ post (some (.long (σ.2 18 j))) σ
def xX8_worthOfE : am_X := (SH, KF, (some .long), FT_X8, PT_X8, CT_X8, KT_X8, LT_X8, NT_X8, [])
theorem xX8_worthOfE_SH : am_SH xX8_worthOfE = SH := rfl
theorem xX8_worthOfE_KF : am_KF xX8_worthOfE = KF := rfl
theorem xX8_worthOfE_rt : am_rt xX8_worthOfE = (some .long) := rfl
theorem xX8_worthOfE_FT : am_FT xX8_worthOfE = FT_X8 := rfl
theorem xX8_worthOfE_PT : am_PT xX8_worthOfE = PT_X8 := rfl
theorem xX8_worthOfE_CT : am_CT xX8_worthOfE = CT_X8 := rfl
theorem xX8_worthOfE_KT : am_KT xX8_worthOfE = KT_X8 := rfl
theorem xX8_worthOfE_LT : am_LT xX8_worthOfE = LT_X8 := rfl
theorem xX8_worthOfE_NT : am_NT xX8_worthOfE = NT_X8 := rfl
theorem xX8_worthOfE_t1 (k : Nat → Prop) : am_tg 1 (21) k = k 22 := am_tg_eq (by decide)
theorem xX8_worthOfE_t10 (k : Nat → Prop) : am_tg 10 (12) k = k 22 := am_tg_eq (by decide)
theorem xX8_worthOfE_t19 (k : Nat → Prop) : am_tg 19 (4) k = k 23 := am_tg_eq (by decide)

theorem ptX8_worthOfE : am_B cX8_worthOf xX8_worthOfE 2 0 sX8_worthOfE := by
  intro n0 as σ post AA hA h
  obtain ⟨rfl, j, hj, rfl, h⟩ := h
  refine ⟨by simp [am_sl, Value.category], ?_⟩
  show AA 0 [some (.ref 14), some (.int (Int32.ofInt (j : Int)))] [] 92 σ
  refine hA [] 20 _ _ _ _ _ ?_
  try simp only [dX8_worthOf_0, dX8_worthOf_1, xX8_worthOfE_t1, dX8_worthOf_4, dX8_worthOf_5, dX8_worthOf_6, FT_X8_20, dX8_worthOf_9, dX8_worthOf_10, xX8_worthOfE_t10, dX8_worthOf_13, dX8_worthOf_14, dX8_worthOf_17, dX8_worthOf_18, dX8_worthOf_19, xX8_worthOfE_t19, dX8_worthOf_22, dX8_worthOf_23, xX8_worthOfE_SH, xX8_worthOfE_KF, xX8_worthOfE_rt, xX8_worthOfE_FT, xX8_worthOfE_PT, xX8_worthOfE_CT, xX8_worthOfE_KT, xX8_worthOfE_LT, xX8_worthOfE_NT, o_aload_n, o_arraylength, o_getfield, o_goto, o_ifCond_lt, o_if_icmp_ge, o_iload_n, o_laload, o_lconst, o_lreturn, SH_14, KF_14_3, SH_18, am_ty, am_vc, am_opt, am_cl, am_find, am_ldi, am_ldl, am_lda, am_v, am_1, am_1l, am_1a, am_2, am_2l, am_ix, am_ri, am_arr, am_pf, am_rc, am_mask, am_lg, am_av, am_nat, fv_0, fv_1, fv_2, fv_3, fw_0, fw_1, List.getElem?_cons_zero, List.getElem?_cons_succ, List.set_cons_zero, List.set_cons_succ, List.length_cons, List.length_nil, List.take_succ_cons, List.take_zero, List.drop_succ_cons, List.drop_zero, List.reverse_cons, List.reverse_nil, List.nil_append, List.cons_append, List.append_nil, List.map_cons, List.map_nil, List.sum_cons, List.sum_nil, Value.category, Option.toList_some, Option.toList_none, Nat.reduceAdd, Nat.reduceLT, Nat.reduceLeDiff, Nat.reduceEqDiff, Nat.reduceSub, Nat.add_zero, Nat.le_refl, Nat.zero_le, Int.reduceNeg, Int.reduceLE, Int.reduceLT, true_and, and_true, and_self, if_true, if_false, ite_true, ite_false, eq_self_iff_true, reduceIte, reduceCtorEq, not_false_eq_true, not_true_eq_false, or_true, true_or, or_false, false_or, Nat.lt_irrefl, Nat.zero_lt_succ]
  try simp (disch := omega) only [ii_0, ii_1, ii_t, ii_add, ii_sub, ii_mul, ii_lt, ii_le, ii_eq, ij_in, ii_c, Int.toNat_natCast, Int.toNat_zero, Int.reduceToNat, Int.reduceEq, Int.reduceNe, Int.reduceLE, Int.reduceLT, Int.reduceAdd, Int.reduceSub, Int.reduceMul, Int.reduceNeg, Nat.reduceLT, Nat.reduceAdd, Nat.reduceMul, not_false_eq_true, not_true_eq_false, true_and, and_true, and_self, false_and, and_false, true_implies, false_implies, implies_true, forall_const, if_true, if_false, ite_true, ite_false, reduceIte, eq_self_iff_true, Int.natCast_nonneg, Int.zero_add, Int.add_zero, pi_s, pi_n, on_2000, on_402, on_408, on_19, on_5, on_4]
  exact ⟨fun q => absurd q (by omega), fun _ => ⟨fun q => absurd q (by omega), fun _ => ⟨by omega, h⟩⟩⟩
theorem mX8_worthOfE (l : Launch) : am_M l TB NB vwCl SH KF yX8_worthOf cX8_worthOf 2 (some .long) 2 0 0 sX8_worthOfE := by
  refine am_M.of xX8_worthOfE (by decide +kernel) TB_good GF rfl rfl rfl (by decide) ⟨FT_X8_ok, PT_X8_ok _, CT_X8_ok, KT_X8_ok, LT_X8_ok, NT_X8_ok, ?_⟩ ptX8_worthOfE
  exact fun _ h => absurd h List.not_mem_nil

/-- it looks at token t, without a fault -/
def cOK (b : Nat → Int) (Z : Nat) (σ : am_S) (t : Nat) : Prop := wVC b Z σ ∧ (t ≤ 400 ∧ ∀ i, i < t → tK b Z i ≠ 0) ∧ σ.1 2 3 = Int32.ofInt (t : Int) ∧ σ.1 2 4 = Int32.ofInt (ck (tK b Z t)) ∧ σ.1 2 5 = Int32.ofInt (tP b Z t) ∧ (tK b Z t = 2 → σ.2 2 6 = (Int32.ofInt (tV b Z t)).toInt64) ∧ (tK b Z t = 1 → σ.2 2 6 = tN b Z t) ∧ σ.1 2 7 = Int32.ofInt 0
/-- it has a fault -/
def cFA (σ : am_S) (k p : Int) : Prop := (1 ≤ k ∧ k ≤ 2) ∧ σ.1 2 7 = Int32.ofInt k ∧ σ.1 2 8 = Int32.ofInt p ∧ σ.1 2 4 = Int32.ofInt 1
/-- where a reader stands: at a token, or a fault with its place -/
abbrev ST : Type := Nat ⊕ (Int × Int)
def cST (b : Nat → Int) (Z : Nat) (σ : am_S) (s : ST) : Prop := match s with
  | .inl t => cOK b Z σ t
  | .inr q => wVC b Z σ ∧ cFA σ q.1 q.2
def stF (b : Nat → Int) (Z : Nat) (k : Int) (s : ST) : ST := match s with
  | .inl t => .inr (k, tP b Z t)
  | .inr q => .inr q
/-- behind a token that must be of kind k -/
def stT (b : Nat → Int) (Z : Nat) (k : Int) (s : ST) : ST := match s with
  | .inl t => if tK b Z t = k then (if t = 400 then .inr (2, tP b Z t) else .inl (t + 1)) else .inr (1, tP b Z t)
  | .inr q => .inr q
def rkM : sa_M := [(2, 3, 8 + 1)]
theorem wVC_fr {b : Nat → Int} {Z : Nat} {σ τ : am_S} (h : wVC b Z σ) (h1 : ∀ o i, o = 14 ∨ o = 16 ∨ o = 17 → τ.1 o i = σ.1 o i) (h2 : ∀ i, τ.2 18 i = σ.2 18 i) : wVC b Z τ := by
  have es : cS τ = cS σ := by unfold cS; rw [h1 _ _ (Or.inl rfl)]
  obtain ⟨g1, g2⟩ := h
  refine ⟨by rw [es]; exact g1, fun j hj hb => ?_⟩
  obtain ⟨c0, c1, c2, c3, c4⟩ := g2 j hj hb
  exact ⟨by rw [es]; exact c0, by rw [h1 _ _ (Or.inr (Or.inl rfl))]; exact c1, by rw [h1 _ _ (Or.inr (Or.inr rfl))]; exact c2, fun q => by rw [h2]; exact c3 q, fun q => by rw [h2]; exact c4 q⟩
theorem wVC_sI {b : Nat → Int} {Z : Nat} {M : sa_M} {σ τ : am_S} (h : wVC b Z σ) (g : sI BB SH M σ τ) (hM : M.all (fun m => decide (m.1 ≠ 14) && (decide (m.1 ≠ 16) && (decide (m.1 ≠ 17) && decide (m.1 ≠ 18)))) = true) : wVC b Z τ := by
  have q : ∀ m ∈ M, m.1 ≠ 14 ∧ m.1 ≠ 16 ∧ m.1 ≠ 17 ∧ m.1 ≠ 18 := fun m hm => by
    have := List.all_eq_true.mp hM m hm
    simpa using this
  refine wVC_fr h (fun o i ho => (g.2 o i (fun m hm hh => ?_)).1) (fun i => (g.2 _ i (fun m hm hh => (q m hm).2.2.2 hh.1)).2)
  have := q m hm
  rcases ho with rfl | rfl | rfl
  · exact this.1 hh.1
  · exact this.2.1 hh.1
  · exact this.2.2.1 hh.1
theorem ck_inj_d : (List.range 39).all (fun a => (List.range 39).all (fun c => !decide (ck (a : Int) = ck (c : Int)) || decide ((a = 11 ∨ a = 12 ∨ a = 14 ∨ (16 ≤ a ∧ a ≤ 19)) ∨ (c = 11 ∨ c = 12 ∨ c = 14 ∨ (16 ≤ c ∧ c ≤ 19)) ∨ a = c))) = true := by decide +kernel
theorem ck_inj {k k' : Int} (h : 0 ≤ k ∧ k ≤ 38) (h' : 0 ≤ k' ∧ k' ≤ 38) (e : ck k = ck k') (n : k ≠ 11 ∧ k ≠ 12 ∧ k ≠ 14 ∧ ¬ (16 ≤ k ∧ k ≤ 19)) (n' : k' ≠ 11 ∧ k' ≠ 12 ∧ k' ≠ 14 ∧ ¬ (16 ≤ k' ∧ k' ≤ 19)) : k = k' := by
  obtain ⟨a, rfl⟩ : ∃ a : Nat, k = (a : Int) := ⟨k.toNat, by omega⟩
  obtain ⟨c, rfl⟩ : ∃ c : Nat, k' = (c : Int) := ⟨k'.toNat, by omega⟩
  have q := List.all_eq_true.mp (List.all_eq_true.mp ck_inj_d a (List.mem_range.mpr (by omega))) c (List.mem_range.mpr (by omega))
  rw [decide_eq_true e, Bool.not_true, Bool.false_or] at q
  have q2 := of_decide_eq_true q
  omega
theorem ck_b {k : Int} (h : 0 ≤ k ∧ k ≤ 38) : 0 ≤ ck k ∧ ck k ≤ 274 := by
  unfold ck
  repeat' split
  all_goals omega
theorem tkd_n {b : Nat → Int} {Z i : Nat} : tkd b Z i ≠ 11 ∧ tkd b Z i ≠ 12 ∧ tkd b Z i ≠ 14 ∧ ¬ (16 ≤ tkd b Z i ∧ tkd b Z i ≤ 19) := by
  have s : ∀ c, sgn c ≠ 11 ∧ sgn c ≠ 12 ∧ sgn c ≠ 14 ∧ ¬ (16 ≤ sgn c ∧ sgn c ≤ 19) := by
    intro c
    unfold sgn
    repeat' split
    all_goals decide
  unfold tkd
  have := s (b i)
  repeat' split
  all_goals first | exact this | omega
def sX5_failE : am_Sp := fun as n σ post => n = 92 ∧ sb_ok BB SH σ ∧ ∃ (b : Nat → Int) (Z : Nat) (s : ST) (k : Int), cST b Z σ s ∧ (1 ≤ k ∧ k ≤ 2) ∧ as = [.ref 2, .int (Int32.ofInt k)] ∧ ∀ τ, sI BB SH rkM σ τ → cST b Z τ (stF b Z k s) → post none τ
def xX5_failE : am_X := (SH, KF, none, FT_X5, PT_X5, CT_X5, KT_X5, LT_X5, NT_X5, [])
theorem xX5_failE_SH : am_SH xX5_failE = SH := rfl
theorem xX5_failE_KF : am_KF xX5_failE = KF := rfl
theorem xX5_failE_rt : am_rt xX5_failE = none := rfl
theorem xX5_failE_FT : am_FT xX5_failE = FT_X5 := rfl
theorem xX5_failE_PT : am_PT xX5_failE = PT_X5 := rfl
theorem xX5_failE_CT : am_CT xX5_failE = CT_X5 := rfl
theorem xX5_failE_KT : am_KT xX5_failE = KT_X5 := rfl
theorem xX5_failE_LT : am_LT xX5_failE = LT_X5 := rfl
theorem xX5_failE_NT : am_NT xX5_failE = NT_X5 := rfl
theorem xX5_failE_t4 (k : Nat → Prop) : am_tg 4 (21) k = k 25 := am_tg_eq (by decide)

set_option maxRecDepth 100000 in
theorem ptX5_failE : am_B cX5_fail xX5_failE 2 0 sX5_failE := by
  intro n0 as σ post AA hA h
  obtain ⟨rfl, hB, b, Z, s, k, hs, hk, rfl, h⟩ := h
  refine ⟨by simp [am_sl, Value.category], ?_⟩
  show AA 0 [some (.ref 2), some (.int (Int32.ofInt k))] [] 92 σ
  cases s with
  | inl t =>
    obtain ⟨v, ⟨t1, t2⟩, e3, e4, e5, e6, e7, e8⟩ := hs
    refine hA [] 20 _ _ _ _ _ ?_
    try simp only [dX5_fail_0, dX5_fail_1, FT_X5_43, dX5_fail_4, xX5_failE_t4, dX5_fail_7, dX5_fail_8, dX5_fail_9, PT_X5_43, dX5_fail_12, dX5_fail_13, dX5_fail_14, FT_X5_36, dX5_fail_17, PT_X5_46, dX5_fail_20, dX5_fail_21, dX5_fail_22, PT_X5_33, dX5_fail_25, xX5_failE_SH, xX5_failE_KF, xX5_failE_rt, xX5_failE_FT, xX5_failE_PT, xX5_failE_CT, xX5_failE_KT, xX5_failE_LT, xX5_failE_NT, o_aload_n, o_getfield, o_iconst, o_ifCond_ne, o_iload_n, o_putfield, o_return_, SH_2, KF_2_4, KF_2_5, KF_2_7, KF_2_8, am_ty, am_vc, am_opt, am_cl, am_find, am_ldi, am_ldl, am_lda, am_v, am_1, am_1l, am_1a, am_2, am_2l, am_ix, am_ri, am_arr, am_pf, am_rc, am_mask, am_lg, am_av, am_nat, fv_0, fv_1, fv_2, fv_3, fw_0, fw_1, List.getElem?_cons_zero, List.getElem?_cons_succ, List.set_cons_zero, List.set_cons_succ, List.length_cons, List.length_nil, List.take_succ_cons, List.take_zero, List.drop_succ_cons, List.drop_zero, List.reverse_cons, List.reverse_nil, List.nil_append, List.cons_append, List.append_nil, List.map_cons, List.map_nil, List.sum_cons, List.sum_nil, Value.category, Option.toList_some, Option.toList_none, Nat.reduceAdd, Nat.reduceLT, Nat.reduceLeDiff, Nat.reduceEqDiff, Nat.reduceSub, Nat.add_zero, Nat.le_refl, Nat.zero_le, Int.reduceNeg, Int.reduceLE, Int.reduceLT, true_and, and_true, and_self, if_true, if_false, ite_true, ite_false, eq_self_iff_true, reduceIte, reduceCtorEq, not_false_eq_true, not_true_eq_false, or_true, true_or, or_false, false_or, Nat.lt_irrefl, Nat.zero_lt_succ, e8]
    try simp (disch := omega) only [ii_0, ii_1, ii_t, ii_add, ii_sub, ii_mul, ii_lt, ii_le, ii_eq, ij_in, ii_c, Int.toNat_natCast, Int.toNat_zero, Int.reduceToNat, Int.reduceEq, Int.reduceNe, Int.reduceLE, Int.reduceLT, Int.reduceAdd, Int.reduceSub, Int.reduceMul, Int.reduceNeg, Nat.reduceLT, Nat.reduceAdd, Nat.reduceMul, not_false_eq_true, not_true_eq_false, true_and, and_true, and_self, false_and, and_false, true_implies, false_implies, implies_true, forall_const, if_true, if_false, ite_true, ite_false, reduceIte, eq_self_iff_true, Int.natCast_nonneg, Int.zero_add, Int.add_zero, pi_s, pi_n, on_2000, on_402, on_408, on_19, on_5, on_4, e8, e5]
    have x1 := ii_lo (Int32.ofInt k)
    have x2 := ii_hi (Int32.ofInt k)
    have y1 := ii_lo (Int32.ofInt (tP b Z t))
    have y2 := ii_hi (Int32.ofInt (tP b Z t))
    have i1 : sI BB SH rkM σ (am_pi σ 2 7 (Int32.ofInt k)) := sI_fld (ci := 5) ⟨hB, sb_fr_r _ _⟩ rfl ⟨x1, by show _ ≤ (2147483647 : Int); omega⟩ ⟨_, List.mem_cons_self, rfl, by decide, by decide⟩
    have i2 := sI_fld (o := 2) (k := 8) (x := Int32.ofInt (tP b Z t)) (ci := 5) i1 rfl ⟨y1, by show _ ≤ (2147483647 : Int); omega⟩ ⟨_, List.mem_cons_self, rfl, by decide, by decide⟩
    have i3 := sI_fld (o := 2) (k := 4) (x := Int32.ofInt 1) (ci := 5) i2 rfl ⟨by decide, by decide⟩ ⟨_, List.mem_cons_self, rfl, by decide, by decide⟩
    refine h _ i3 ⟨wVC_sI v i3 (by decide), hk, ?_, ?_, pi_s _ _ _ _⟩
    · rw [pi_n _ _ _ _ (fun z => absurd z.2 (by decide)), pi_n _ _ _ _ (fun z => absurd z.2 (by decide)), pi_s]
    · rw [pi_n _ _ _ _ (fun z => absurd z.2 (by decide)), pi_s]
  | inr q =>
    obtain ⟨v, q1, q2, q3, q4⟩ := id hs
    obtain ⟨fv, efv⟩ : ∃ fv, fv = q.1 := ⟨_, rfl⟩
    rw [← efv] at q1 q2
    refine hA [] 20 _ _ _ _ _ ?_
    try simp only [dX5_fail_0, dX5_fail_1, FT_X5_43, dX5_fail_4, xX5_failE_t4, dX5_fail_7, dX5_fail_8, dX5_fail_9, PT_X5_43, dX5_fail_12, dX5_fail_13, dX5_fail_14, FT_X5_36, dX5_fail_17, PT_X5_46, dX5_fail_20, dX5_fail_21, dX5_fail_22, PT_X5_33, dX5_fail_25, xX5_failE_SH, xX5_failE_KF, xX5_failE_rt, xX5_failE_FT, xX5_failE_PT, xX5_failE_CT, xX5_failE_KT, xX5_failE_LT, xX5_failE_NT, o_aload_n, o_getfield, o_iconst, o_ifCond_ne, o_iload_n, o_putfield, o_return_, SH_2, KF_2_4, KF_2_5, KF_2_7, KF_2_8, am_ty, am_vc, am_opt, am_cl, am_find, am_ldi, am_ldl, am_lda, am_v, am_1, am_1l, am_1a, am_2, am_2l, am_ix, am_ri, am_arr, am_pf, am_rc, am_mask, am_lg, am_av, am_nat, fv_0, fv_1, fv_2, fv_3, fw_0, fw_1, List.getElem?_cons_zero, List.getElem?_cons_succ, List.set_cons_zero, List.set_cons_succ, List.length_cons, List.length_nil, List.take_succ_cons, List.take_zero, List.drop_succ_cons, List.drop_zero, List.reverse_cons, List.reverse_nil, List.nil_append, List.cons_append, List.append_nil, List.map_cons, List.map_nil, List.sum_cons, List.sum_nil, Value.category, Option.toList_some, Option.toList_none, Nat.reduceAdd, Nat.reduceLT, Nat.reduceLeDiff, Nat.reduceEqDiff, Nat.reduceSub, Nat.add_zero, Nat.le_refl, Nat.zero_le, Int.reduceNeg, Int.reduceLE, Int.reduceLT, true_and, and_true, and_self, if_true, if_false, ite_true, ite_false, eq_self_iff_true, reduceIte, reduceCtorEq, not_false_eq_true, not_true_eq_false, or_true, true_or, or_false, false_or, Nat.lt_irrefl, Nat.zero_lt_succ, q2]
    try simp (disch := omega) only [ii_0, ii_1, ii_t, ii_add, ii_sub, ii_mul, ii_lt, ii_le, ii_eq, ij_in, ii_c, Int.toNat_natCast, Int.toNat_zero, Int.reduceToNat, Int.reduceEq, Int.reduceNe, Int.reduceLE, Int.reduceLT, Int.reduceAdd, Int.reduceSub, Int.reduceMul, Int.reduceNeg, Nat.reduceLT, Nat.reduceAdd, Nat.reduceMul, not_false_eq_true, not_true_eq_false, true_and, and_true, and_self, false_and, and_false, true_implies, false_implies, implies_true, forall_const, if_true, if_false, ite_true, ite_false, reduceIte, eq_self_iff_true, Int.natCast_nonneg, Int.zero_add, Int.add_zero, pi_s, pi_n, on_2000, on_402, on_408, on_19, on_5, on_4, q2]
    have hP := h σ ⟨hB, sb_fr_r _ _⟩ hs
    first | exact hP | exact fun _ => hP | exact ⟨fun _ => hP, fun z => absurd z (by omega)⟩
theorem mX5_failE (l : Launch) : am_M l TB NB vwCl SH KF yX5_fail cX5_fail 2 none 2 0 0 sX5_failE := by
  refine am_M.of xX5_failE (by decide +kernel) TB_good GF rfl rfl rfl (by decide) ⟨FT_X5_ok, PT_X5_ok _, CT_X5_ok, KT_X5_ok, LT_X5_ok, NT_X5_ok, ?_⟩ ptX5_failE
  exact fun _ h => absurd h List.not_mem_nil

def stB (s : ST) : Int := match s with
  | .inl _ => 1
  | .inr _ => 0
def sX5_takeE : am_Sp := fun as n σ post => n = 92 ∧ sb_ok BB SH σ ∧ ∃ (b : Nat → Int) (Z : Nat) (s : ST) (k : Int), cST b Z σ s ∧ ((1 ≤ k ∧ k ≤ 38) ∧ k ≠ 3 ∧ k ≠ 11 ∧ k ≠ 12 ∧ k ≠ 14 ∧ ¬ (16 ≤ k ∧ k ≤ 19)) ∧ as = [.ref 2, .int (Int32.ofInt (ck k))] ∧ ∀ τ, sI BB SH rkM σ τ → cST b Z τ (stT b Z k s) → post (some (.int (Int32.ofInt (stB (stT b Z k s))))) τ
def xX5_takeE : am_X := (SH, KF, (some .boolean), FT_X5, PT_X5, CT_X5, KT_X5, LT_X5, NT_X5, [(62, 0, 2, 8, 0, 0, sX8_kindOfE), (66, 0, 2, 8, 0, 0, sX8_placeOfE), (69, 0, 2, 8, 0, 0, sX8_worthOfE), (81, 0, 2, 5, 0, 0, sX5_failE)])
theorem xX5_takeE_SH : am_SH xX5_takeE = SH := rfl
theorem xX5_takeE_KF : am_KF xX5_takeE = KF := rfl
theorem xX5_takeE_rt : am_rt xX5_takeE = (some .boolean) := rfl
theorem xX5_takeE_FT : am_FT xX5_takeE = FT_X5 := rfl
theorem xX5_takeE_PT : am_PT xX5_takeE = PT_X5 := rfl
theorem xX5_takeE_CT : am_CT xX5_takeE = CT_X5 := rfl
theorem xX5_takeE_KT : am_KT xX5_takeE = KT_X5 := rfl
theorem xX5_takeE_LT : am_LT xX5_takeE = LT_X5 := rfl
theorem xX5_takeE_NT : am_NT xX5_takeE = NT_X5 := rfl
theorem xX5_takeE_c62 : am_find (am_ML xX5_takeE) 62 = some (0, 2, 8, 0, 0, sX8_kindOfE) := rfl
theorem xX5_takeE_n62 : am_find NT_X5 62 = none := rfl
theorem xX5_takeE_c66 : am_find (am_ML xX5_takeE) 66 = some (0, 2, 8, 0, 0, sX8_placeOfE) := rfl
theorem xX5_takeE_n66 : am_find NT_X5 66 = none := rfl
theorem xX5_takeE_c69 : am_find (am_ML xX5_takeE) 69 = some (0, 2, 8, 0, 0, sX8_worthOfE) := rfl
theorem xX5_takeE_n69 : am_find NT_X5 69 = none := rfl
theorem xX5_takeE_c81 : am_find (am_ML xX5_takeE) 81 = some (0, 2, 5, 0, 0, sX5_failE) := rfl
theorem xX5_takeE_n81 : am_find NT_X5 81 = none := rfl
theorem xX5_takeE_t5 (k : Nat → Prop) : am_tg 5 (11) k = k 16 := am_tg_eq (by decide)
theorem xX5_takeE_t13 (k : Nat → Prop) : am_tg 13 (76) k = k 89 := am_tg_eq (by decide)
theorem xX5_takeE_t23 (k : Nat → Prop) : am_tg 23 (11) k = k 34 := am_tg_eq (by decide)
theorem xX5_takeE_t31 (k : Nat → Prop) : am_tg 31 (58) k = k 89 := am_tg_eq (by decide)
theorem xX5_takeE_t93 (k : Nat → Prop) : am_tg 93 (7) k = k 100 := am_tg_eq (by decide)
theorem xX5_takeE_t97 (k : Nat → Prop) : am_tg 97 (4) k = k 101 := am_tg_eq (by decide)

set_option maxRecDepth 100000 in
theorem tkv_89 {post : Option Value → am_S → Prop} {AA : Nat → List (Option Value) → List Value → Nat → am_S → Prop} (hA : ∀ cuts f pc ls stk n τ, am_vc cX5_take xX5_takeE (92 + 0) post AA cuts f pc ls stk n τ → AA pc ls stk n τ) {b : Nat → Int} {Z : Nat} {s : ST} {τ : am_S} (hs : cST b Z τ s) (h : post (some (.int (Int32.ofInt (stB s)))) τ) (ls : List (Option Value)) (hl : ls.length = 2) (h0 : ls[0]? = some (some (.ref 2))) : AA 89 ls [] 92 τ := by
  match ls, hl, h0 with
  | [a0, a1], _, h0 =>
  have h0 : a0 = some (.ref 2) := by simpa using h0
  subst h0
  cases s with
  | inl t =>
    obtain ⟨v, ⟨t1, t2⟩, e3, e4, e5, e6, e7, e8⟩ := hs
    refine hA [] 20 _ _ _ _ _ ?_
    try simp only [dX5_take_0, dX5_take_1, FT_X5_33, dX5_take_4, dX5_take_5, xX5_takeE_t5, dX5_take_8, dX5_take_9, dX5_take_10, xX5_takeE_c81, xX5_takeE_n81, dX5_take_13, xX5_takeE_t13, dX5_take_16, dX5_take_17, FT_X5_29, dX5_take_20, dX5_take_23, xX5_takeE_t23, dX5_take_26, dX5_take_27, dX5_take_28, dX5_take_31, xX5_takeE_t31, dX5_take_34, dX5_take_35, dX5_take_36, dX5_take_39, dX5_take_40, dX5_take_41, PT_X5_29, dX5_take_44, dX5_take_45, dX5_take_46, FT_X5_21, dX5_take_49, dX5_take_50, dX5_take_53, xX5_takeE_c62, xX5_takeE_n62, dX5_take_56, PT_X5_33, dX5_take_59, dX5_take_60, dX5_take_61, dX5_take_64, dX5_take_65, dX5_take_68, xX5_takeE_c66, xX5_takeE_n66, dX5_take_71, PT_X5_36, dX5_take_74, dX5_take_75, dX5_take_76, dX5_take_79, dX5_take_80, dX5_take_83, xX5_takeE_c69, xX5_takeE_n69, dX5_take_86, PT_X5_39, dX5_take_89, dX5_take_90, FT_X5_43, dX5_take_93, xX5_takeE_t93, dX5_take_96, dX5_take_97, xX5_takeE_t97, dX5_take_100, dX5_take_101, xX5_takeE_SH, xX5_takeE_KF, xX5_takeE_rt, xX5_takeE_FT, xX5_takeE_PT, xX5_takeE_CT, xX5_takeE_KT, xX5_takeE_LT, xX5_takeE_NT, o_aload_n, o_dup, o_getfield, o_goto, o_iadd, o_iconst, o_ifCond_ne, o_if_icmp_eq, o_if_icmp_lt, o_iload_n, o_invokevirtual, o_ireturn, o_putfield, o_sipush, SH_2, KF_2_1, SH_14, KF_2_3, KF_2_4, KF_2_5, KF_2_6, KF_2_7, am_ty, am_vc, am_opt, am_cl, am_find, am_ldi, am_ldl, am_lda, am_v, am_1, am_1l, am_1a, am_2, am_2l, am_ix, am_ri, am_arr, am_pf, am_rc, am_mask, am_lg, am_av, am_nat, fv_0, fv_1, fv_2, fv_3, fw_0, fw_1, List.getElem?_cons_zero, List.getElem?_cons_succ, List.set_cons_zero, List.set_cons_succ, List.length_cons, List.length_nil, List.take_succ_cons, List.take_zero, List.drop_succ_cons, List.drop_zero, List.reverse_cons, List.reverse_nil, List.nil_append, List.cons_append, List.append_nil, List.map_cons, List.map_nil, List.sum_cons, List.sum_nil, Value.category, Option.toList_some, Option.toList_none, Nat.reduceAdd, Nat.reduceLT, Nat.reduceLeDiff, Nat.reduceEqDiff, Nat.reduceSub, Nat.add_zero, Nat.le_refl, Nat.zero_le, Int.reduceNeg, Int.reduceLE, Int.reduceLT, true_and, and_true, and_self, if_true, if_false, ite_true, ite_false, eq_self_iff_true, reduceIte, reduceCtorEq, not_false_eq_true, not_true_eq_false, or_true, true_or, or_false, false_or, Nat.lt_irrefl, Nat.zero_lt_succ, e8, nb_0, nb_1]
    try simp (disch := omega) only [ii_0, ii_1, ii_t, ii_add, ii_sub, ii_mul, ii_lt, ii_le, ii_eq, ij_in, ii_c, Int.toNat_natCast, Int.toNat_zero, Int.reduceToNat, Int.reduceEq, Int.reduceNe, Int.reduceLE, Int.reduceLT, Int.reduceAdd, Int.reduceSub, Int.reduceMul, Int.reduceNeg, Nat.reduceLT, Nat.reduceAdd, Nat.reduceMul, not_false_eq_true, not_true_eq_false, true_and, and_true, and_self, false_and, and_false, true_implies, false_implies, implies_true, forall_const, if_true, if_false, ite_true, ite_false, reduceIte, eq_self_iff_true, Int.natCast_nonneg, Int.zero_add, Int.add_zero, pi_s, pi_n, on_2000, on_402, on_408, on_19, on_5, on_4, e8, nb_0, nb_1]
    first | exact h | exact ⟨fun z => absurd rfl z, fun _ => h⟩ | exact fun _ => h
  | inr q =>
    obtain ⟨v, q1, q2, q3, q4⟩ := hs
    obtain ⟨fv, efv⟩ : ∃ fv, fv = q.1 := ⟨_, rfl⟩
    rw [← efv] at q1 q2
    refine hA [] 20 _ _ _ _ _ ?_
    try simp only [dX5_take_0, dX5_take_1, FT_X5_33, dX5_take_4, dX5_take_5, xX5_takeE_t5, dX5_take_8, dX5_take_9, dX5_take_10, xX5_takeE_c81, xX5_takeE_n81, dX5_take_13, xX5_takeE_t13, dX5_take_16, dX5_take_17, FT_X5_29, dX5_take_20, dX5_take_23, xX5_takeE_t23, dX5_take_26, dX5_take_27, dX5_take_28, dX5_take_31, xX5_takeE_t31, dX5_take_34, dX5_take_35, dX5_take_36, dX5_take_39, dX5_take_40, dX5_take_41, PT_X5_29, dX5_take_44, dX5_take_45, dX5_take_46, FT_X5_21, dX5_take_49, dX5_take_50, dX5_take_53, xX5_takeE_c62, xX5_takeE_n62, dX5_take_56, PT_X5_33, dX5_take_59, dX5_take_60, dX5_take_61, dX5_take_64, dX5_take_65, dX5_take_68, xX5_takeE_c66, xX5_takeE_n66, dX5_take_71, PT_X5_36, dX5_take_74, dX5_take_75, dX5_take_76, dX5_take_79, dX5_take_80, dX5_take_83, xX5_takeE_c69, xX5_takeE_n69, dX5_take_86, PT_X5_39, dX5_take_89, dX5_take_90, FT_X5_43, dX5_take_93, xX5_takeE_t93, dX5_take_96, dX5_take_97, xX5_takeE_t97, dX5_take_100, dX5_take_101, xX5_takeE_SH, xX5_takeE_KF, xX5_takeE_rt, xX5_takeE_FT, xX5_takeE_PT, xX5_takeE_CT, xX5_takeE_KT, xX5_takeE_LT, xX5_takeE_NT, o_aload_n, o_dup, o_getfield, o_goto, o_iadd, o_iconst, o_ifCond_ne, o_if_icmp_eq, o_if_icmp_lt, o_iload_n, o_invokevirtual, o_ireturn, o_putfield, o_sipush, SH_2, KF_2_1, SH_14, KF_2_3, KF_2_4, KF_2_5, KF_2_6, KF_2_7, am_ty, am_vc, am_opt, am_cl, am_find, am_ldi, am_ldl, am_lda, am_v, am_1, am_1l, am_1a, am_2, am_2l, am_ix, am_ri, am_arr, am_pf, am_rc, am_mask, am_lg, am_av, am_nat, fv_0, fv_1, fv_2, fv_3, fw_0, fw_1, List.getElem?_cons_zero, List.getElem?_cons_succ, List.set_cons_zero, List.set_cons_succ, List.length_cons, List.length_nil, List.take_succ_cons, List.take_zero, List.drop_succ_cons, List.drop_zero, List.reverse_cons, List.reverse_nil, List.nil_append, List.cons_append, List.append_nil, List.map_cons, List.map_nil, List.sum_cons, List.sum_nil, Value.category, Option.toList_some, Option.toList_none, Nat.reduceAdd, Nat.reduceLT, Nat.reduceLeDiff, Nat.reduceEqDiff, Nat.reduceSub, Nat.add_zero, Nat.le_refl, Nat.zero_le, Int.reduceNeg, Int.reduceLE, Int.reduceLT, true_and, and_true, and_self, if_true, if_false, ite_true, ite_false, eq_self_iff_true, reduceIte, reduceCtorEq, not_false_eq_true, not_true_eq_false, or_true, true_or, or_false, false_or, Nat.lt_irrefl, Nat.zero_lt_succ, q2, nb_0, nb_1]
    try simp (disch := omega) only [ii_0, ii_1, ii_t, ii_add, ii_sub, ii_mul, ii_lt, ii_le, ii_eq, ij_in, ii_c, Int.toNat_natCast, Int.toNat_zero, Int.reduceToNat, Int.reduceEq, Int.reduceNe, Int.reduceLE, Int.reduceLT, Int.reduceAdd, Int.reduceSub, Int.reduceMul, Int.reduceNeg, Nat.reduceLT, Nat.reduceAdd, Nat.reduceMul, not_false_eq_true, not_true_eq_false, true_and, and_true, and_self, false_and, and_false, true_implies, false_implies, implies_true, forall_const, if_true, if_false, ite_true, ite_false, reduceIte, eq_self_iff_true, Int.natCast_nonneg, Int.zero_add, Int.add_zero, pi_s, pi_n, on_2000, on_402, on_408, on_19, on_5, on_4, q2, nb_0, nb_1]
    first | exact h | exact ⟨fun _ => h, fun z => absurd z (by omega)⟩ | exact fun _ => h
set_option maxRecDepth 100000 in
theorem ptX5_takeE : am_B cX5_take xX5_takeE 2 0 sX5_takeE := by
  intro n0 as σ post AA hA h
  obtain ⟨rfl, hB, b, Z, s, k, hs, ⟨hk, hk3, hkn⟩, rfl, h⟩ := h
  have cb := ck_b (k := k) ⟨by omega, hk.2⟩
  have ck1 : ck k ≠ 1 := by
    intro z
    unfold ck at z
    repeat' split at z
    all_goals omega
  obtain ⟨w, ew⟩ : ∃ w, w = ck k := ⟨_, rfl⟩
  refine ⟨by simp [am_sl, Value.category], ?_⟩
  rw [← ew] at cb ck1 ⊢
  show AA 0 [some (.ref 2), some (.int (Int32.ofInt w))] [] 92 σ
  cases s with
  | inr q =>
    obtain ⟨v, q1, q2, q3, q4⟩ := id hs
    refine hA [] 7 _ _ _ _ _ ?_
    try simp only [dX5_take_0, dX5_take_1, FT_X5_33, dX5_take_4, dX5_take_5, xX5_takeE_t5, dX5_take_8, dX5_take_9, dX5_take_10, xX5_takeE_c81, xX5_takeE_n81, dX5_take_13, xX5_takeE_t13, dX5_take_16, dX5_take_17, FT_X5_29, dX5_take_20, dX5_take_23, xX5_takeE_t23, dX5_take_26, dX5_take_27, dX5_take_28, dX5_take_31, xX5_takeE_t31, dX5_take_34, dX5_take_35, dX5_take_36, dX5_take_39, dX5_take_40, dX5_take_41, PT_X5_29, dX5_take_44, dX5_take_45, dX5_take_46, FT_X5_21, dX5_take_49, dX5_take_50, dX5_take_53, xX5_takeE_c62, xX5_takeE_n62, dX5_take_56, PT_X5_33, dX5_take_59, dX5_take_60, dX5_take_61, dX5_take_64, dX5_take_65, dX5_take_68, xX5_takeE_c66, xX5_takeE_n66, dX5_take_71, PT_X5_36, dX5_take_74, dX5_take_75, dX5_take_76, dX5_take_79, dX5_take_80, dX5_take_83, xX5_takeE_c69, xX5_takeE_n69, dX5_take_86, PT_X5_39, dX5_take_89, dX5_take_90, FT_X5_43, dX5_take_93, xX5_takeE_t93, dX5_take_96, dX5_take_97, xX5_takeE_t97, dX5_take_100, dX5_take_101, xX5_takeE_SH, xX5_takeE_KF, xX5_takeE_rt, xX5_takeE_FT, xX5_takeE_PT, xX5_takeE_CT, xX5_takeE_KT, xX5_takeE_LT, xX5_takeE_NT, o_aload_n, o_dup, o_getfield, o_goto, o_iadd, o_iconst, o_ifCond_ne, o_if_icmp_eq, o_if_icmp_lt, o_iload_n, o_invokevirtual, o_ireturn, o_putfield, o_sipush, SH_2, KF_2_1, SH_14, KF_2_3, KF_2_4, KF_2_5, KF_2_6, KF_2_7, am_ty, am_vc, am_opt, am_cl, am_find, am_ldi, am_ldl, am_lda, am_v, am_1, am_1l, am_1a, am_2, am_2l, am_ix, am_ri, am_arr, am_pf, am_rc, am_mask, am_lg, am_av, am_nat, fv_0, fv_1, fv_2, fv_3, fw_0, fw_1, List.getElem?_cons_zero, List.getElem?_cons_succ, List.set_cons_zero, List.set_cons_succ, List.length_cons, List.length_nil, List.take_succ_cons, List.take_zero, List.drop_succ_cons, List.drop_zero, List.reverse_cons, List.reverse_nil, List.nil_append, List.cons_append, List.append_nil, List.map_cons, List.map_nil, List.sum_cons, List.sum_nil, Value.category, Option.toList_some, Option.toList_none, Nat.reduceAdd, Nat.reduceLT, Nat.reduceLeDiff, Nat.reduceEqDiff, Nat.reduceSub, Nat.add_zero, Nat.le_refl, Nat.zero_le, Int.reduceNeg, Int.reduceLE, Int.reduceLT, true_and, and_true, and_self, if_true, if_false, ite_true, ite_false, eq_self_iff_true, reduceIte, reduceCtorEq, not_false_eq_true, not_true_eq_false, or_true, true_or, or_false, false_or, Nat.lt_irrefl, Nat.zero_lt_succ, q4]
    try simp (disch := omega) only [ii_0, ii_1, ii_t, ii_add, ii_sub, ii_mul, ii_lt, ii_le, ii_eq, ij_in, ii_c, Int.toNat_natCast, Int.toNat_zero, Int.reduceToNat, Int.reduceEq, Int.reduceNe, Int.reduceLE, Int.reduceLT, Int.reduceAdd, Int.reduceSub, Int.reduceMul, Int.reduceNeg, Nat.reduceLT, Nat.reduceAdd, Nat.reduceMul, not_false_eq_true, not_true_eq_false, true_and, and_true, and_self, false_and, and_false, true_implies, false_implies, implies_true, forall_const, if_true, if_false, ite_true, ite_false, reduceIte, eq_self_iff_true, Int.natCast_nonneg, Int.zero_add, Int.add_zero, pi_s, pi_n, on_2000, on_402, on_408, on_19, on_5, on_4, q4]
    refine ⟨fun z => absurd z (by omega), fun _ => ⟨rfl, hB, b, Z, .inr q, 1, hs, ⟨by decide, by decide⟩, rfl, fun τ g1 g2 => ?_⟩⟩
    try simp only [dX5_take_0, dX5_take_1, FT_X5_33, dX5_take_4, dX5_take_5, xX5_takeE_t5, dX5_take_8, dX5_take_9, dX5_take_10, xX5_takeE_c81, xX5_takeE_n81, dX5_take_13, xX5_takeE_t13, dX5_take_16, dX5_take_17, FT_X5_29, dX5_take_20, dX5_take_23, xX5_takeE_t23, dX5_take_26, dX5_take_27, dX5_take_28, dX5_take_31, xX5_takeE_t31, dX5_take_34, dX5_take_35, dX5_take_36, dX5_take_39, dX5_take_40, dX5_take_41, PT_X5_29, dX5_take_44, dX5_take_45, dX5_take_46, FT_X5_21, dX5_take_49, dX5_take_50, dX5_take_53, xX5_takeE_c62, xX5_takeE_n62, dX5_take_56, PT_X5_33, dX5_take_59, dX5_take_60, dX5_take_61, dX5_take_64, dX5_take_65, dX5_take_68, xX5_takeE_c66, xX5_takeE_n66, dX5_take_71, PT_X5_36, dX5_take_74, dX5_take_75, dX5_take_76, dX5_take_79, dX5_take_80, dX5_take_83, xX5_takeE_c69, xX5_takeE_n69, dX5_take_86, PT_X5_39, dX5_take_89, dX5_take_90, FT_X5_43, dX5_take_93, xX5_takeE_t93, dX5_take_96, dX5_take_97, xX5_takeE_t97, dX5_take_100, dX5_take_101, xX5_takeE_SH, xX5_takeE_KF, xX5_takeE_rt, xX5_takeE_FT, xX5_takeE_PT, xX5_takeE_CT, xX5_takeE_KT, xX5_takeE_LT, xX5_takeE_NT, o_aload_n, o_dup, o_getfield, o_goto, o_iadd, o_iconst, o_ifCond_ne, o_if_icmp_eq, o_if_icmp_lt, o_iload_n, o_invokevirtual, o_ireturn, o_putfield, o_sipush, SH_2, KF_2_1, SH_14, KF_2_3, KF_2_4, KF_2_5, KF_2_6, KF_2_7, am_ty, am_vc, am_opt, am_cl, am_find, am_ldi, am_ldl, am_lda, am_v, am_1, am_1l, am_1a, am_2, am_2l, am_ix, am_ri, am_arr, am_pf, am_rc, am_mask, am_lg, am_av, am_nat, fv_0, fv_1, fv_2, fv_3, fw_0, fw_1, List.getElem?_cons_zero, List.getElem?_cons_succ, List.set_cons_zero, List.set_cons_succ, List.length_cons, List.length_nil, List.take_succ_cons, List.take_zero, List.drop_succ_cons, List.drop_zero, List.reverse_cons, List.reverse_nil, List.nil_append, List.cons_append, List.append_nil, List.map_cons, List.map_nil, List.sum_cons, List.sum_nil, Value.category, Option.toList_some, Option.toList_none, Nat.reduceAdd, Nat.reduceLT, Nat.reduceLeDiff, Nat.reduceEqDiff, Nat.reduceSub, Nat.add_zero, Nat.le_refl, Nat.zero_le, Int.reduceNeg, Int.reduceLE, Int.reduceLT, true_and, and_true, and_self, if_true, if_false, ite_true, ite_false, eq_self_iff_true, reduceIte, reduceCtorEq, not_false_eq_true, not_true_eq_false, or_true, true_or, or_false, false_or, Nat.lt_irrefl, Nat.zero_lt_succ]
    refine hA [(89, 2)] 1 _ _ _ _ _ ?_
    try simp only [dX5_take_0, dX5_take_1, FT_X5_33, dX5_take_4, dX5_take_5, xX5_takeE_t5, dX5_take_8, dX5_take_9, dX5_take_10, xX5_takeE_c81, xX5_takeE_n81, dX5_take_13, xX5_takeE_t13, dX5_take_16, dX5_take_17, FT_X5_29, dX5_take_20, dX5_take_23, xX5_takeE_t23, dX5_take_26, dX5_take_27, dX5_take_28, dX5_take_31, xX5_takeE_t31, dX5_take_34, dX5_take_35, dX5_take_36, dX5_take_39, dX5_take_40, dX5_take_41, PT_X5_29, dX5_take_44, dX5_take_45, dX5_take_46, FT_X5_21, dX5_take_49, dX5_take_50, dX5_take_53, xX5_takeE_c62, xX5_takeE_n62, dX5_take_56, PT_X5_33, dX5_take_59, dX5_take_60, dX5_take_61, dX5_take_64, dX5_take_65, dX5_take_68, xX5_takeE_c66, xX5_takeE_n66, dX5_take_71, PT_X5_36, dX5_take_74, dX5_take_75, dX5_take_76, dX5_take_79, dX5_take_80, dX5_take_83, xX5_takeE_c69, xX5_takeE_n69, dX5_take_86, PT_X5_39, dX5_take_89, dX5_take_90, FT_X5_43, dX5_take_93, xX5_takeE_t93, dX5_take_96, dX5_take_97, xX5_takeE_t97, dX5_take_100, dX5_take_101, xX5_takeE_SH, xX5_takeE_KF, xX5_takeE_rt, xX5_takeE_FT, xX5_takeE_PT, xX5_takeE_CT, xX5_takeE_KT, xX5_takeE_LT, xX5_takeE_NT, o_aload_n, o_dup, o_getfield, o_goto, o_iadd, o_iconst, o_ifCond_ne, o_if_icmp_eq, o_if_icmp_lt, o_iload_n, o_invokevirtual, o_ireturn, o_putfield, o_sipush, SH_2, KF_2_1, SH_14, KF_2_3, KF_2_4, KF_2_5, KF_2_6, KF_2_7, am_ty, am_vc, am_opt, am_cl, am_find, am_ldi, am_ldl, am_lda, am_v, am_1, am_1l, am_1a, am_2, am_2l, am_ix, am_ri, am_arr, am_pf, am_rc, am_mask, am_lg, am_av, am_nat, fv_0, fv_1, fv_2, fv_3, fw_0, fw_1, List.getElem?_cons_zero, List.getElem?_cons_succ, List.set_cons_zero, List.set_cons_succ, List.length_cons, List.length_nil, List.take_succ_cons, List.take_zero, List.drop_succ_cons, List.drop_zero, List.reverse_cons, List.reverse_nil, List.nil_append, List.cons_append, List.append_nil, List.map_cons, List.map_nil, List.sum_cons, List.sum_nil, Value.category, Option.toList_some, Option.toList_none, Nat.reduceAdd, Nat.reduceLT, Nat.reduceLeDiff, Nat.reduceEqDiff, Nat.reduceSub, Nat.add_zero, Nat.le_refl, Nat.zero_le, Int.reduceNeg, Int.reduceLE, Int.reduceLT, true_and, and_true, and_self, if_true, if_false, ite_true, ite_false, eq_self_iff_true, reduceIte, reduceCtorEq, not_false_eq_true, not_true_eq_false, or_true, true_or, or_false, false_or, Nat.lt_irrefl, Nat.zero_lt_succ]
    exact tkv_89 hA g2 (h τ g1 g2) _ rfl rfl
  | inl t =>
    obtain ⟨v, ⟨t1, t2⟩, e3, e4, e5, e6, e7, e8⟩ := id hs
    have kb := tkd_b (b := b) (Z := Z) (i := ps b Z t)
    have kb2 := ck_b (k := tK b Z t) ⟨kb.1, kb.2.1⟩
    obtain ⟨kv, ekv⟩ : ∃ kv, kv = ck (tK b Z t) := ⟨_, rfl⟩
    rw [← ekv] at e4 kb2
    have iff : kv = w ↔ tK b Z t = k := by
      rw [ekv, ew]
      exact ⟨fun z => ck_inj ⟨kb.1, kb.2.1⟩ ⟨by omega, hk.2⟩ z tkd_n hkn, fun z => by rw [z]⟩
    have at34 : kv = w → t < 400 → AA 34 [some (.ref 2), some (.int (Int32.ofInt w))] [] 92 σ := by
      intro z z2
      have z := iff.mp z
      have est : stT b Z k (.inl t) = .inl (t + 1) := by show (if tK b Z t = k then _ else _) = _; rw [if_pos z, if_neg (by omega)]
      rw [est] at h
      have v1 : ∀ i, i < t + 1 → tK b Z i ≠ 0 := fun i hi => by
        by_cases q : i = t
        · rw [q, z]; omega
        · exact t2 i (by omega)
      have c1 := v.2 (t + 1) (by omega) v1
      have x1 := ii_hi (Int32.ofInt ((t + 1 : Nat) : Int))
      have x2 := ii_hi (Int32.ofInt (ck (tK b Z (t + 1))))
      have x3 := ii_hi (Int32.ofInt (tP b Z (t + 1)))
      obtain ⟨σ1, es1⟩ : ∃ σ1, σ1 = am_pi σ 2 3 (Int32.ofInt ((t + 1 : Nat) : Int)) := ⟨_, rfl⟩
      have i1 : sI BB SH rkM σ σ1 := by rw [es1]; exact sI_fld (ci := 5) ⟨hB, sb_fr_r _ _⟩ rfl ⟨ii_lo _, by show _ ≤ (2147483647 : Int); omega⟩ ⟨_, List.mem_cons_self, rfl, by decide, by decide⟩
      have f1 : σ1.1 2 3 = Int32.ofInt ((t + 1 : Nat) : Int) := by rw [es1, pi_s]
      have g1 : σ1.1 2 7 = Int32.ofInt 0 := by rw [es1, pi_n _ _ _ _ (fun z => absurd z.2 (by decide))]; exact e8
      have v1' := wVC_sI v i1 (by decide)
      have c1' := v1'.2 (t + 1) (by omega) v1
      refine hA [] 12 _ _ _ _ _ ?_
      try simp only [dX5_take_0, dX5_take_1, FT_X5_33, dX5_take_4, dX5_take_5, xX5_takeE_t5, dX5_take_8, dX5_take_9, dX5_take_10, xX5_takeE_c81, xX5_takeE_n81, dX5_take_13, xX5_takeE_t13, dX5_take_16, dX5_take_17, FT_X5_29, dX5_take_20, dX5_take_23, xX5_takeE_t23, dX5_take_26, dX5_take_27, dX5_take_28, dX5_take_31, xX5_takeE_t31, dX5_take_34, dX5_take_35, dX5_take_36, dX5_take_39, dX5_take_40, dX5_take_41, PT_X5_29, dX5_take_44, dX5_take_45, dX5_take_46, FT_X5_21, dX5_take_49, dX5_take_50, dX5_take_53, xX5_takeE_c62, xX5_takeE_n62, dX5_take_56, PT_X5_33, dX5_take_59, dX5_take_60, dX5_take_61, dX5_take_64, dX5_take_65, dX5_take_68, xX5_takeE_c66, xX5_takeE_n66, dX5_take_71, PT_X5_36, dX5_take_74, dX5_take_75, dX5_take_76, dX5_take_79, dX5_take_80, dX5_take_83, xX5_takeE_c69, xX5_takeE_n69, dX5_take_86, PT_X5_39, dX5_take_89, dX5_take_90, FT_X5_43, dX5_take_93, xX5_takeE_t93, dX5_take_96, dX5_take_97, xX5_takeE_t97, dX5_take_100, dX5_take_101, xX5_takeE_SH, xX5_takeE_KF, xX5_takeE_rt, xX5_takeE_FT, xX5_takeE_PT, xX5_takeE_CT, xX5_takeE_KT, xX5_takeE_LT, xX5_takeE_NT, o_aload_n, o_dup, o_getfield, o_goto, o_iadd, o_iconst, o_ifCond_ne, o_if_icmp_eq, o_if_icmp_lt, o_iload_n, o_invokevirtual, o_ireturn, o_putfield, o_sipush, SH_2, KF_2_1, SH_14, KF_2_3, KF_2_4, KF_2_5, KF_2_6, KF_2_7, am_ty, am_vc, am_opt, am_cl, am_find, am_ldi, am_ldl, am_lda, am_v, am_1, am_1l, am_1a, am_2, am_2l, am_ix, am_ri, am_arr, am_pf, am_rc, am_mask, am_lg, am_av, am_nat, fv_0, fv_1, fv_2, fv_3, fw_0, fw_1, List.getElem?_cons_zero, List.getElem?_cons_succ, List.set_cons_zero, List.set_cons_succ, List.length_cons, List.length_nil, List.take_succ_cons, List.take_zero, List.drop_succ_cons, List.drop_zero, List.reverse_cons, List.reverse_nil, List.nil_append, List.cons_append, List.append_nil, List.map_cons, List.map_nil, List.sum_cons, List.sum_nil, Value.category, Option.toList_some, Option.toList_none, Nat.reduceAdd, Nat.reduceLT, Nat.reduceLeDiff, Nat.reduceEqDiff, Nat.reduceSub, Nat.add_zero, Nat.le_refl, Nat.zero_le, Int.reduceNeg, Int.reduceLE, Int.reduceLT, true_and, and_true, and_self, if_true, if_false, ite_true, ite_false, eq_self_iff_true, reduceIte, reduceCtorEq, not_false_eq_true, not_true_eq_false, or_true, true_or, or_false, false_or, Nat.lt_irrefl, Nat.zero_lt_succ, e3]
      try simp (disch := omega) only [ii_0, ii_1, ii_t, ii_add, ii_sub, ii_mul, ii_lt, ii_le, ii_eq, ij_in, ii_c, Int.toNat_natCast, Int.toNat_zero, Int.reduceToNat, Int.reduceEq, Int.reduceNe, Int.reduceLE, Int.reduceLT, Int.reduceAdd, Int.reduceSub, Int.reduceMul, Int.reduceNeg, Nat.reduceLT, Nat.reduceAdd, Nat.reduceMul, not_false_eq_true, not_true_eq_false, true_and, and_true, and_self, false_and, and_false, true_implies, false_implies, implies_true, forall_const, if_true, if_false, ite_true, ite_false, reduceIte, eq_self_iff_true, Int.natCast_nonneg, Int.zero_add, Int.add_zero, pi_s, pi_n, on_2000, on_402, on_408, on_19, on_5, on_4, e3]
      rw [show ((t : Int) + 1) = ((t + 1 : Nat) : Int) by omega, ← es1]
      refine ⟨rfl, b, Z, t + 1, by omega, v1'.1.2, c1', rfl, ?_⟩
      obtain ⟨σ2, es2⟩ : ∃ σ2, σ2 = am_pi σ1 2 4 (Int32.ofInt (ck (tK b Z (t + 1)))) := ⟨_, rfl⟩
      have i2 : sI BB SH rkM σ σ2 := by rw [es2]; exact sI_fld (ci := 5) i1 rfl ⟨ii_lo _, by show _ ≤ (2147483647 : Int); omega⟩ ⟨_, List.mem_cons_self, rfl, by decide, by decide⟩
      have f2 : σ2.1 2 3 = Int32.ofInt ((t + 1 : Nat) : Int) := by rw [es2, pi_n _ _ _ _ (fun z => absurd z.2 (by decide))]; exact f1
      have v2' := wVC_sI v i2 (by decide)
      try simp only [dX5_take_0, dX5_take_1, FT_X5_33, dX5_take_4, dX5_take_5, xX5_takeE_t5, dX5_take_8, dX5_take_9, dX5_take_10, xX5_takeE_c81, xX5_takeE_n81, dX5_take_13, xX5_takeE_t13, dX5_take_16, dX5_take_17, FT_X5_29, dX5_take_20, dX5_take_23, xX5_takeE_t23, dX5_take_26, dX5_take_27, dX5_take_28, dX5_take_31, xX5_takeE_t31, dX5_take_34, dX5_take_35, dX5_take_36, dX5_take_39, dX5_take_40, dX5_take_41, PT_X5_29, dX5_take_44, dX5_take_45, dX5_take_46, FT_X5_21, dX5_take_49, dX5_take_50, dX5_take_53, xX5_takeE_c62, xX5_takeE_n62, dX5_take_56, PT_X5_33, dX5_take_59, dX5_take_60, dX5_take_61, dX5_take_64, dX5_take_65, dX5_take_68, xX5_takeE_c66, xX5_takeE_n66, dX5_take_71, PT_X5_36, dX5_take_74, dX5_take_75, dX5_take_76, dX5_take_79, dX5_take_80, dX5_take_83, xX5_takeE_c69, xX5_takeE_n69, dX5_take_86, PT_X5_39, dX5_take_89, dX5_take_90, FT_X5_43, dX5_take_93, xX5_takeE_t93, dX5_take_96, dX5_take_97, xX5_takeE_t97, dX5_take_100, dX5_take_101, xX5_takeE_SH, xX5_takeE_KF, xX5_takeE_rt, xX5_takeE_FT, xX5_takeE_PT, xX5_takeE_CT, xX5_takeE_KT, xX5_takeE_LT, xX5_takeE_NT, o_aload_n, o_dup, o_getfield, o_goto, o_iadd, o_iconst, o_ifCond_ne, o_if_icmp_eq, o_if_icmp_lt, o_iload_n, o_invokevirtual, o_ireturn, o_putfield, o_sipush, SH_2, KF_2_1, SH_14, KF_2_3, KF_2_4, KF_2_5, KF_2_6, KF_2_7, am_ty, am_vc, am_opt, am_cl, am_find, am_ldi, am_ldl, am_lda, am_v, am_1, am_1l, am_1a, am_2, am_2l, am_ix, am_ri, am_arr, am_pf, am_rc, am_mask, am_lg, am_av, am_nat, fv_0, fv_1, fv_2, fv_3, fw_0, fw_1, List.getElem?_cons_zero, List.getElem?_cons_succ, List.set_cons_zero, List.set_cons_succ, List.length_cons, List.length_nil, List.take_succ_cons, List.take_zero, List.drop_succ_cons, List.drop_zero, List.reverse_cons, List.reverse_nil, List.nil_append, List.cons_append, List.append_nil, List.map_cons, List.map_nil, List.sum_cons, List.sum_nil, Value.category, Option.toList_some, Option.toList_none, Nat.reduceAdd, Nat.reduceLT, Nat.reduceLeDiff, Nat.reduceEqDiff, Nat.reduceSub, Nat.add_zero, Nat.le_refl, Nat.zero_le, Int.reduceNeg, Int.reduceLE, Int.reduceLT, true_and, and_true, and_self, if_true, if_false, ite_true, ite_false, eq_self_iff_true, reduceIte, reduceCtorEq, not_false_eq_true, not_true_eq_false, or_true, true_or, or_false, false_or, Nat.lt_irrefl, Nat.zero_lt_succ]
      refine hA [] 7 _ _ _ _ _ ?_
      try simp only [dX5_take_0, dX5_take_1, FT_X5_33, dX5_take_4, dX5_take_5, xX5_takeE_t5, dX5_take_8, dX5_take_9, dX5_take_10, xX5_takeE_c81, xX5_takeE_n81, dX5_take_13, xX5_takeE_t13, dX5_take_16, dX5_take_17, FT_X5_29, dX5_take_20, dX5_take_23, xX5_takeE_t23, dX5_take_26, dX5_take_27, dX5_take_28, dX5_take_31, xX5_takeE_t31, dX5_take_34, dX5_take_35, dX5_take_36, dX5_take_39, dX5_take_40, dX5_take_41, PT_X5_29, dX5_take_44, dX5_take_45, dX5_take_46, FT_X5_21, dX5_take_49, dX5_take_50, dX5_take_53, xX5_takeE_c62, xX5_takeE_n62, dX5_take_56, PT_X5_33, dX5_take_59, dX5_take_60, dX5_take_61, dX5_take_64, dX5_take_65, dX5_take_68, xX5_takeE_c66, xX5_takeE_n66, dX5_take_71, PT_X5_36, dX5_take_74, dX5_take_75, dX5_take_76, dX5_take_79, dX5_take_80, dX5_take_83, xX5_takeE_c69, xX5_takeE_n69, dX5_take_86, PT_X5_39, dX5_take_89, dX5_take_90, FT_X5_43, dX5_take_93, xX5_takeE_t93, dX5_take_96, dX5_take_97, xX5_takeE_t97, dX5_take_100, dX5_take_101, xX5_takeE_SH, xX5_takeE_KF, xX5_takeE_rt, xX5_takeE_FT, xX5_takeE_PT, xX5_takeE_CT, xX5_takeE_KT, xX5_takeE_LT, xX5_takeE_NT, o_aload_n, o_dup, o_getfield, o_goto, o_iadd, o_iconst, o_ifCond_ne, o_if_icmp_eq, o_if_icmp_lt, o_iload_n, o_invokevirtual, o_ireturn, o_putfield, o_sipush, SH_2, KF_2_1, SH_14, KF_2_3, KF_2_4, KF_2_5, KF_2_6, KF_2_7, am_ty, am_vc, am_opt, am_cl, am_find, am_ldi, am_ldl, am_lda, am_v, am_1, am_1l, am_1a, am_2, am_2l, am_ix, am_ri, am_arr, am_pf, am_rc, am_mask, am_lg, am_av, am_nat, fv_0, fv_1, fv_2, fv_3, fw_0, fw_1, List.getElem?_cons_zero, List.getElem?_cons_succ, List.set_cons_zero, List.set_cons_succ, List.length_cons, List.length_nil, List.take_succ_cons, List.take_zero, List.drop_succ_cons, List.drop_zero, List.reverse_cons, List.reverse_nil, List.nil_append, List.cons_append, List.append_nil, List.map_cons, List.map_nil, List.sum_cons, List.sum_nil, Value.category, Option.toList_some, Option.toList_none, Nat.reduceAdd, Nat.reduceLT, Nat.reduceLeDiff, Nat.reduceEqDiff, Nat.reduceSub, Nat.add_zero, Nat.le_refl, Nat.zero_le, Int.reduceNeg, Int.reduceLE, Int.reduceLT, true_and, and_true, and_self, if_true, if_false, ite_true, ite_false, eq_self_iff_true, reduceIte, reduceCtorEq, not_false_eq_true, not_true_eq_false, or_true, true_or, or_false, false_or, Nat.lt_irrefl, Nat.zero_lt_succ]
      rw [← es2]
      simp only [f2]
      refine ⟨rfl, b, Z, t + 1, by omega, v2'.2 (t + 1) (by omega) v1, rfl, ?_⟩
      obtain ⟨σ3, es3⟩ : ∃ σ3, σ3 = am_pi σ2 2 5 (Int32.ofInt (tP b Z (t + 1))) := ⟨_, rfl⟩
      have i3 : sI BB SH rkM σ σ3 := by rw [es3]; exact sI_fld (ci := 5) i2 rfl ⟨ii_lo _, by show _ ≤ (2147483647 : Int); omega⟩ ⟨_, List.mem_cons_self, rfl, by decide, by decide⟩
      have f3 : σ3.1 2 3 = Int32.ofInt ((t + 1 : Nat) : Int) := by rw [es3, pi_n _ _ _ _ (fun z => absurd z.2 (by decide))]; exact f2
      try simp only [dX5_take_0, dX5_take_1, FT_X5_33, dX5_take_4, dX5_take_5, xX5_takeE_t5, dX5_take_8, dX5_take_9, dX5_take_10, xX5_takeE_c81, xX5_takeE_n81, dX5_take_13, xX5_takeE_t13, dX5_take_16, dX5_take_17, FT_X5_29, dX5_take_20, dX5_take_23, xX5_takeE_t23, dX5_take_26, dX5_take_27, dX5_take_28, dX5_take_31, xX5_takeE_t31, dX5_take_34, dX5_take_35, dX5_take_36, dX5_take_39, dX5_take_40, dX5_take_41, PT_X5_29, dX5_take_44, dX5_take_45, dX5_take_46, FT_X5_21, dX5_take_49, dX5_take_50, dX5_take_53, xX5_takeE_c62, xX5_takeE_n62, dX5_take_56, PT_X5_33, dX5_take_59, dX5_take_60, dX5_take_61, dX5_take_64, dX5_take_65, dX5_take_68, xX5_takeE_c66, xX5_takeE_n66, dX5_take_71, PT_X5_36, dX5_take_74, dX5_take_75, dX5_take_76, dX5_take_79, dX5_take_80, dX5_take_83, xX5_takeE_c69, xX5_takeE_n69, dX5_take_86, PT_X5_39, dX5_take_89, dX5_take_90, FT_X5_43, dX5_take_93, xX5_takeE_t93, dX5_take_96, dX5_take_97, xX5_takeE_t97, dX5_take_100, dX5_take_101, xX5_takeE_SH, xX5_takeE_KF, xX5_takeE_rt, xX5_takeE_FT, xX5_takeE_PT, xX5_takeE_CT, xX5_takeE_KT, xX5_takeE_LT, xX5_takeE_NT, o_aload_n, o_dup, o_getfield, o_goto, o_iadd, o_iconst, o_ifCond_ne, o_if_icmp_eq, o_if_icmp_lt, o_iload_n, o_invokevirtual, o_ireturn, o_putfield, o_sipush, SH_2, KF_2_1, SH_14, KF_2_3, KF_2_4, KF_2_5, KF_2_6, KF_2_7, am_ty, am_vc, am_opt, am_cl, am_find, am_ldi, am_ldl, am_lda, am_v, am_1, am_1l, am_1a, am_2, am_2l, am_ix, am_ri, am_arr, am_pf, am_rc, am_mask, am_lg, am_av, am_nat, fv_0, fv_1, fv_2, fv_3, fw_0, fw_1, List.getElem?_cons_zero, List.getElem?_cons_succ, List.set_cons_zero, List.set_cons_succ, List.length_cons, List.length_nil, List.take_succ_cons, List.take_zero, List.drop_succ_cons, List.drop_zero, List.reverse_cons, List.reverse_nil, List.nil_append, List.cons_append, List.append_nil, List.map_cons, List.map_nil, List.sum_cons, List.sum_nil, Value.category, Option.toList_some, Option.toList_none, Nat.reduceAdd, Nat.reduceLT, Nat.reduceLeDiff, Nat.reduceEqDiff, Nat.reduceSub, Nat.add_zero, Nat.le_refl, Nat.zero_le, Int.reduceNeg, Int.reduceLE, Int.reduceLT, true_and, and_true, and_self, if_true, if_false, ite_true, ite_false, eq_self_iff_true, reduceIte, reduceCtorEq, not_false_eq_true, not_true_eq_false, or_true, true_or, or_false, false_or, Nat.lt_irrefl, Nat.zero_lt_succ]
      refine hA [] 7 _ _ _ _ _ ?_
      try simp only [dX5_take_0, dX5_take_1, FT_X5_33, dX5_take_4, dX5_take_5, xX5_takeE_t5, dX5_take_8, dX5_take_9, dX5_take_10, xX5_takeE_c81, xX5_takeE_n81, dX5_take_13, xX5_takeE_t13, dX5_take_16, dX5_take_17, FT_X5_29, dX5_take_20, dX5_take_23, xX5_takeE_t23, dX5_take_26, dX5_take_27, dX5_take_28, dX5_take_31, xX5_takeE_t31, dX5_take_34, dX5_take_35, dX5_take_36, dX5_take_39, dX5_take_40, dX5_take_41, PT_X5_29, dX5_take_44, dX5_take_45, dX5_take_46, FT_X5_21, dX5_take_49, dX5_take_50, dX5_take_53, xX5_takeE_c62, xX5_takeE_n62, dX5_take_56, PT_X5_33, dX5_take_59, dX5_take_60, dX5_take_61, dX5_take_64, dX5_take_65, dX5_take_68, xX5_takeE_c66, xX5_takeE_n66, dX5_take_71, PT_X5_36, dX5_take_74, dX5_take_75, dX5_take_76, dX5_take_79, dX5_take_80, dX5_take_83, xX5_takeE_c69, xX5_takeE_n69, dX5_take_86, PT_X5_39, dX5_take_89, dX5_take_90, FT_X5_43, dX5_take_93, xX5_takeE_t93, dX5_take_96, dX5_take_97, xX5_takeE_t97, dX5_take_100, dX5_take_101, xX5_takeE_SH, xX5_takeE_KF, xX5_takeE_rt, xX5_takeE_FT, xX5_takeE_PT, xX5_takeE_CT, xX5_takeE_KT, xX5_takeE_LT, xX5_takeE_NT, o_aload_n, o_dup, o_getfield, o_goto, o_iadd, o_iconst, o_ifCond_ne, o_if_icmp_eq, o_if_icmp_lt, o_iload_n, o_invokevirtual, o_ireturn, o_putfield, o_sipush, SH_2, KF_2_1, SH_14, KF_2_3, KF_2_4, KF_2_5, KF_2_6, KF_2_7, am_ty, am_vc, am_opt, am_cl, am_find, am_ldi, am_ldl, am_lda, am_v, am_1, am_1l, am_1a, am_2, am_2l, am_ix, am_ri, am_arr, am_pf, am_rc, am_mask, am_lg, am_av, am_nat, fv_0, fv_1, fv_2, fv_3, fw_0, fw_1, List.getElem?_cons_zero, List.getElem?_cons_succ, List.set_cons_zero, List.set_cons_succ, List.length_cons, List.length_nil, List.take_succ_cons, List.take_zero, List.drop_succ_cons, List.drop_zero, List.reverse_cons, List.reverse_nil, List.nil_append, List.cons_append, List.append_nil, List.map_cons, List.map_nil, List.sum_cons, List.sum_nil, Value.category, Option.toList_some, Option.toList_none, Nat.reduceAdd, Nat.reduceLT, Nat.reduceLeDiff, Nat.reduceEqDiff, Nat.reduceSub, Nat.add_zero, Nat.le_refl, Nat.zero_le, Int.reduceNeg, Int.reduceLE, Int.reduceLT, true_and, and_true, and_self, if_true, if_false, ite_true, ite_false, eq_self_iff_true, reduceIte, reduceCtorEq, not_false_eq_true, not_true_eq_false, or_true, true_or, or_false, false_or, Nat.lt_irrefl, Nat.zero_lt_succ]
      rw [← es3]
      simp only [f3]
      refine ⟨rfl, t + 1, by omega, rfl, ?_⟩
      have i4 := sI_pl (o := 2) (k := 6) (x := σ3.2 18 (t + 1)) i3 ⟨_, List.mem_cons_self, rfl, by decide, by decide⟩
      have ew3 : σ3.2 18 (t + 1) = σ.2 18 (t + 1) := by rw [es3, es2, es1]; rfl
      try simp only [dX5_take_0, dX5_take_1, FT_X5_33, dX5_take_4, dX5_take_5, xX5_takeE_t5, dX5_take_8, dX5_take_9, dX5_take_10, xX5_takeE_c81, xX5_takeE_n81, dX5_take_13, xX5_takeE_t13, dX5_take_16, dX5_take_17, FT_X5_29, dX5_take_20, dX5_take_23, xX5_takeE_t23, dX5_take_26, dX5_take_27, dX5_take_28, dX5_take_31, xX5_takeE_t31, dX5_take_34, dX5_take_35, dX5_take_36, dX5_take_39, dX5_take_40, dX5_take_41, PT_X5_29, dX5_take_44, dX5_take_45, dX5_take_46, FT_X5_21, dX5_take_49, dX5_take_50, dX5_take_53, xX5_takeE_c62, xX5_takeE_n62, dX5_take_56, PT_X5_33, dX5_take_59, dX5_take_60, dX5_take_61, dX5_take_64, dX5_take_65, dX5_take_68, xX5_takeE_c66, xX5_takeE_n66, dX5_take_71, PT_X5_36, dX5_take_74, dX5_take_75, dX5_take_76, dX5_take_79, dX5_take_80, dX5_take_83, xX5_takeE_c69, xX5_takeE_n69, dX5_take_86, PT_X5_39, dX5_take_89, dX5_take_90, FT_X5_43, dX5_take_93, xX5_takeE_t93, dX5_take_96, dX5_take_97, xX5_takeE_t97, dX5_take_100, dX5_take_101, xX5_takeE_SH, xX5_takeE_KF, xX5_takeE_rt, xX5_takeE_FT, xX5_takeE_PT, xX5_takeE_CT, xX5_takeE_KT, xX5_takeE_LT, xX5_takeE_NT, o_aload_n, o_dup, o_getfield, o_goto, o_iadd, o_iconst, o_ifCond_ne, o_if_icmp_eq, o_if_icmp_lt, o_iload_n, o_invokevirtual, o_ireturn, o_putfield, o_sipush, SH_2, KF_2_1, SH_14, KF_2_3, KF_2_4, KF_2_5, KF_2_6, KF_2_7, am_ty, am_vc, am_opt, am_cl, am_find, am_ldi, am_ldl, am_lda, am_v, am_1, am_1l, am_1a, am_2, am_2l, am_ix, am_ri, am_arr, am_pf, am_rc, am_mask, am_lg, am_av, am_nat, fv_0, fv_1, fv_2, fv_3, fw_0, fw_1, List.getElem?_cons_zero, List.getElem?_cons_succ, List.set_cons_zero, List.set_cons_succ, List.length_cons, List.length_nil, List.take_succ_cons, List.take_zero, List.drop_succ_cons, List.drop_zero, List.reverse_cons, List.reverse_nil, List.nil_append, List.cons_append, List.append_nil, List.map_cons, List.map_nil, List.sum_cons, List.sum_nil, Value.category, Option.toList_some, Option.toList_none, Nat.reduceAdd, Nat.reduceLT, Nat.reduceLeDiff, Nat.reduceEqDiff, Nat.reduceSub, Nat.add_zero, Nat.le_refl, Nat.zero_le, Int.reduceNeg, Int.reduceLE, Int.reduceLT, true_and, and_true, and_self, if_true, if_false, ite_true, ite_false, eq_self_iff_true, reduceIte, reduceCtorEq, not_false_eq_true, not_true_eq_false, or_true, true_or, or_false, false_or, Nat.lt_irrefl, Nat.zero_lt_succ]
      refine hA [(89, 2)] 1 _ _ _ _ _ ?_
      try simp only [dX5_take_0, dX5_take_1, FT_X5_33, dX5_take_4, dX5_take_5, xX5_takeE_t5, dX5_take_8, dX5_take_9, dX5_take_10, xX5_takeE_c81, xX5_takeE_n81, dX5_take_13, xX5_takeE_t13, dX5_take_16, dX5_take_17, FT_X5_29, dX5_take_20, dX5_take_23, xX5_takeE_t23, dX5_take_26, dX5_take_27, dX5_take_28, dX5_take_31, xX5_takeE_t31, dX5_take_34, dX5_take_35, dX5_take_36, dX5_take_39, dX5_take_40, dX5_take_41, PT_X5_29, dX5_take_44, dX5_take_45, dX5_take_46, FT_X5_21, dX5_take_49, dX5_take_50, dX5_take_53, xX5_takeE_c62, xX5_takeE_n62, dX5_take_56, PT_X5_33, dX5_take_59, dX5_take_60, dX5_take_61, dX5_take_64, dX5_take_65, dX5_take_68, xX5_takeE_c66, xX5_takeE_n66, dX5_take_71, PT_X5_36, dX5_take_74, dX5_take_75, dX5_take_76, dX5_take_79, dX5_take_80, dX5_take_83, xX5_takeE_c69, xX5_takeE_n69, dX5_take_86, PT_X5_39, dX5_take_89, dX5_take_90, FT_X5_43, dX5_take_93, xX5_takeE_t93, dX5_take_96, dX5_take_97, xX5_takeE_t97, dX5_take_100, dX5_take_101, xX5_takeE_SH, xX5_takeE_KF, xX5_takeE_rt, xX5_takeE_FT, xX5_takeE_PT, xX5_takeE_CT, xX5_takeE_KT, xX5_takeE_LT, xX5_takeE_NT, o_aload_n, o_dup, o_getfield, o_goto, o_iadd, o_iconst, o_ifCond_ne, o_if_icmp_eq, o_if_icmp_lt, o_iload_n, o_invokevirtual, o_ireturn, o_putfield, o_sipush, SH_2, KF_2_1, SH_14, KF_2_3, KF_2_4, KF_2_5, KF_2_6, KF_2_7, am_ty, am_vc, am_opt, am_cl, am_find, am_ldi, am_ldl, am_lda, am_v, am_1, am_1l, am_1a, am_2, am_2l, am_ix, am_ri, am_arr, am_pf, am_rc, am_mask, am_lg, am_av, am_nat, fv_0, fv_1, fv_2, fv_3, fw_0, fw_1, List.getElem?_cons_zero, List.getElem?_cons_succ, List.set_cons_zero, List.set_cons_succ, List.length_cons, List.length_nil, List.take_succ_cons, List.take_zero, List.drop_succ_cons, List.drop_zero, List.reverse_cons, List.reverse_nil, List.nil_append, List.cons_append, List.append_nil, List.map_cons, List.map_nil, List.sum_cons, List.sum_nil, Value.category, Option.toList_some, Option.toList_none, Nat.reduceAdd, Nat.reduceLT, Nat.reduceLeDiff, Nat.reduceEqDiff, Nat.reduceSub, Nat.add_zero, Nat.le_refl, Nat.zero_le, Int.reduceNeg, Int.reduceLE, Int.reduceLT, true_and, and_true, and_self, if_true, if_false, ite_true, ite_false, eq_self_iff_true, reduceIte, reduceCtorEq, not_false_eq_true, not_true_eq_false, or_true, true_or, or_false, false_or, Nat.lt_irrefl, Nat.zero_lt_succ]
      have hc : cOK b Z (am_pl σ3 2 6 (σ3.2 18 (t + 1))) (t + 1) := by
        refine ⟨wVC_sI v i4 (by decide), ⟨by omega, v1⟩, f3, ?_, ?_, fun q => ?_, fun q => ?_, ?_⟩
        · rw [pl_i1, es3, pi_n _ _ _ _ (fun z => absurd z.2 (by decide)), es2, pi_s]
        · rw [pl_i1, es3, pi_s]
        · rw [pl_s, ew3]; exact c1.2.2.2.1 q
        · rw [pl_s, ew3]; exact c1.2.2.2.2 q
        · rw [pl_i1, es3, pi_n _ _ _ _ (fun z => absurd z.2 (by decide)), es2, pi_n _ _ _ _ (fun z => absurd z.2 (by decide))]; exact g1
      exact tkv_89 hA (s := .inl (t + 1)) hc (h _ i4 hc) _ rfl rfl
    refine hA [(34, 2), (13, 2), (31, 2)] 12 _ _ _ _ _ ?_
    try simp only [dX5_take_0, dX5_take_1, FT_X5_33, dX5_take_4, dX5_take_5, xX5_takeE_t5, dX5_take_8, dX5_take_9, dX5_take_10, xX5_takeE_c81, xX5_takeE_n81, dX5_take_13, xX5_takeE_t13, dX5_take_16, dX5_take_17, FT_X5_29, dX5_take_20, dX5_take_23, xX5_takeE_t23, dX5_take_26, dX5_take_27, dX5_take_28, dX5_take_31, xX5_takeE_t31, dX5_take_34, dX5_take_35, dX5_take_36, dX5_take_39, dX5_take_40, dX5_take_41, PT_X5_29, dX5_take_44, dX5_take_45, dX5_take_46, FT_X5_21, dX5_take_49, dX5_take_50, dX5_take_53, xX5_takeE_c62, xX5_takeE_n62, dX5_take_56, PT_X5_33, dX5_take_59, dX5_take_60, dX5_take_61, dX5_take_64, dX5_take_65, dX5_take_68, xX5_takeE_c66, xX5_takeE_n66, dX5_take_71, PT_X5_36, dX5_take_74, dX5_take_75, dX5_take_76, dX5_take_79, dX5_take_80, dX5_take_83, xX5_takeE_c69, xX5_takeE_n69, dX5_take_86, PT_X5_39, dX5_take_89, dX5_take_90, FT_X5_43, dX5_take_93, xX5_takeE_t93, dX5_take_96, dX5_take_97, xX5_takeE_t97, dX5_take_100, dX5_take_101, xX5_takeE_SH, xX5_takeE_KF, xX5_takeE_rt, xX5_takeE_FT, xX5_takeE_PT, xX5_takeE_CT, xX5_takeE_KT, xX5_takeE_LT, xX5_takeE_NT, o_aload_n, o_dup, o_getfield, o_goto, o_iadd, o_iconst, o_ifCond_ne, o_if_icmp_eq, o_if_icmp_lt, o_iload_n, o_invokevirtual, o_ireturn, o_putfield, o_sipush, SH_2, KF_2_1, SH_14, KF_2_3, KF_2_4, KF_2_5, KF_2_6, KF_2_7, am_ty, am_vc, am_opt, am_cl, am_find, am_ldi, am_ldl, am_lda, am_v, am_1, am_1l, am_1a, am_2, am_2l, am_ix, am_ri, am_arr, am_pf, am_rc, am_mask, am_lg, am_av, am_nat, fv_0, fv_1, fv_2, fv_3, fw_0, fw_1, List.getElem?_cons_zero, List.getElem?_cons_succ, List.set_cons_zero, List.set_cons_succ, List.length_cons, List.length_nil, List.take_succ_cons, List.take_zero, List.drop_succ_cons, List.drop_zero, List.reverse_cons, List.reverse_nil, List.nil_append, List.cons_append, List.append_nil, List.map_cons, List.map_nil, List.sum_cons, List.sum_nil, Value.category, Option.toList_some, Option.toList_none, Nat.reduceAdd, Nat.reduceLT, Nat.reduceLeDiff, Nat.reduceEqDiff, Nat.reduceSub, Nat.add_zero, Nat.le_refl, Nat.zero_le, Int.reduceNeg, Int.reduceLE, Int.reduceLT, true_and, and_true, and_self, if_true, if_false, ite_true, ite_false, eq_self_iff_true, reduceIte, reduceCtorEq, not_false_eq_true, not_true_eq_false, or_true, true_or, or_false, false_or, Nat.lt_irrefl, Nat.zero_lt_succ, e3, e4]
    try simp (disch := omega) only [ii_0, ii_1, ii_t, ii_add, ii_sub, ii_mul, ii_lt, ii_le, ii_eq, ij_in, ii_c, Int.toNat_natCast, Int.toNat_zero, Int.reduceToNat, Int.reduceEq, Int.reduceNe, Int.reduceLE, Int.reduceLT, Int.reduceAdd, Int.reduceSub, Int.reduceMul, Int.reduceNeg, Nat.reduceLT, Nat.reduceAdd, Nat.reduceMul, not_false_eq_true, not_true_eq_false, true_and, and_true, and_self, false_and, and_false, true_implies, false_implies, implies_true, forall_const, if_true, if_false, ite_true, ite_false, reduceIte, eq_self_iff_true, Int.natCast_nonneg, Int.zero_add, Int.add_zero, pi_s, pi_n, on_2000, on_402, on_408, on_19, on_5, on_4, e3, e4]
    refine ⟨fun z => ⟨fun z2 => at34 z (by omega), fun z2 => ⟨rfl, hB, b, Z, .inl t, 2, hs, ⟨by decide, by decide⟩, rfl, fun τ g1 g2 => ?_⟩⟩, fun z => ⟨rfl, hB, b, Z, .inl t, 1, hs, ⟨by decide, by decide⟩, rfl, fun τ g1 g2 => ?_⟩⟩
    · have est : stT b Z k (.inl t) = .inr (2, tP b Z t) := by show (if tK b Z t = k then _ else _) = _; rw [if_pos (iff.mp z), if_pos (by omega)]
      rw [est] at h
      try simp only [dX5_take_0, dX5_take_1, FT_X5_33, dX5_take_4, dX5_take_5, xX5_takeE_t5, dX5_take_8, dX5_take_9, dX5_take_10, xX5_takeE_c81, xX5_takeE_n81, dX5_take_13, xX5_takeE_t13, dX5_take_16, dX5_take_17, FT_X5_29, dX5_take_20, dX5_take_23, xX5_takeE_t23, dX5_take_26, dX5_take_27, dX5_take_28, dX5_take_31, xX5_takeE_t31, dX5_take_34, dX5_take_35, dX5_take_36, dX5_take_39, dX5_take_40, dX5_take_41, PT_X5_29, dX5_take_44, dX5_take_45, dX5_take_46, FT_X5_21, dX5_take_49, dX5_take_50, dX5_take_53, xX5_takeE_c62, xX5_takeE_n62, dX5_take_56, PT_X5_33, dX5_take_59, dX5_take_60, dX5_take_61, dX5_take_64, dX5_take_65, dX5_take_68, xX5_takeE_c66, xX5_takeE_n66, dX5_take_71, PT_X5_36, dX5_take_74, dX5_take_75, dX5_take_76, dX5_take_79, dX5_take_80, dX5_take_83, xX5_takeE_c69, xX5_takeE_n69, dX5_take_86, PT_X5_39, dX5_take_89, dX5_take_90, FT_X5_43, dX5_take_93, xX5_takeE_t93, dX5_take_96, dX5_take_97, xX5_takeE_t97, dX5_take_100, dX5_take_101, xX5_takeE_SH, xX5_takeE_KF, xX5_takeE_rt, xX5_takeE_FT, xX5_takeE_PT, xX5_takeE_CT, xX5_takeE_KT, xX5_takeE_LT, xX5_takeE_NT, o_aload_n, o_dup, o_getfield, o_goto, o_iadd, o_iconst, o_ifCond_ne, o_if_icmp_eq, o_if_icmp_lt, o_iload_n, o_invokevirtual, o_ireturn, o_putfield, o_sipush, SH_2, KF_2_1, SH_14, KF_2_3, KF_2_4, KF_2_5, KF_2_6, KF_2_7, am_ty, am_vc, am_opt, am_cl, am_find, am_ldi, am_ldl, am_lda, am_v, am_1, am_1l, am_1a, am_2, am_2l, am_ix, am_ri, am_arr, am_pf, am_rc, am_mask, am_lg, am_av, am_nat, fv_0, fv_1, fv_2, fv_3, fw_0, fw_1, List.getElem?_cons_zero, List.getElem?_cons_succ, List.set_cons_zero, List.set_cons_succ, List.length_cons, List.length_nil, List.take_succ_cons, List.take_zero, List.drop_succ_cons, List.drop_zero, List.reverse_cons, List.reverse_nil, List.nil_append, List.cons_append, List.append_nil, List.map_cons, List.map_nil, List.sum_cons, List.sum_nil, Value.category, Option.toList_some, Option.toList_none, Nat.reduceAdd, Nat.reduceLT, Nat.reduceLeDiff, Nat.reduceEqDiff, Nat.reduceSub, Nat.add_zero, Nat.le_refl, Nat.zero_le, Int.reduceNeg, Int.reduceLE, Int.reduceLT, true_and, and_true, and_self, if_true, if_false, ite_true, ite_false, eq_self_iff_true, reduceIte, reduceCtorEq, not_false_eq_true, not_true_eq_false, or_true, true_or, or_false, false_or, Nat.lt_irrefl, Nat.zero_lt_succ]
      refine hA [(89, 2)] 1 _ _ _ _ _ ?_
      try simp only [dX5_take_0, dX5_take_1, FT_X5_33, dX5_take_4, dX5_take_5, xX5_takeE_t5, dX5_take_8, dX5_take_9, dX5_take_10, xX5_takeE_c81, xX5_takeE_n81, dX5_take_13, xX5_takeE_t13, dX5_take_16, dX5_take_17, FT_X5_29, dX5_take_20, dX5_take_23, xX5_takeE_t23, dX5_take_26, dX5_take_27, dX5_take_28, dX5_take_31, xX5_takeE_t31, dX5_take_34, dX5_take_35, dX5_take_36, dX5_take_39, dX5_take_40, dX5_take_41, PT_X5_29, dX5_take_44, dX5_take_45, dX5_take_46, FT_X5_21, dX5_take_49, dX5_take_50, dX5_take_53, xX5_takeE_c62, xX5_takeE_n62, dX5_take_56, PT_X5_33, dX5_take_59, dX5_take_60, dX5_take_61, dX5_take_64, dX5_take_65, dX5_take_68, xX5_takeE_c66, xX5_takeE_n66, dX5_take_71, PT_X5_36, dX5_take_74, dX5_take_75, dX5_take_76, dX5_take_79, dX5_take_80, dX5_take_83, xX5_takeE_c69, xX5_takeE_n69, dX5_take_86, PT_X5_39, dX5_take_89, dX5_take_90, FT_X5_43, dX5_take_93, xX5_takeE_t93, dX5_take_96, dX5_take_97, xX5_takeE_t97, dX5_take_100, dX5_take_101, xX5_takeE_SH, xX5_takeE_KF, xX5_takeE_rt, xX5_takeE_FT, xX5_takeE_PT, xX5_takeE_CT, xX5_takeE_KT, xX5_takeE_LT, xX5_takeE_NT, o_aload_n, o_dup, o_getfield, o_goto, o_iadd, o_iconst, o_ifCond_ne, o_if_icmp_eq, o_if_icmp_lt, o_iload_n, o_invokevirtual, o_ireturn, o_putfield, o_sipush, SH_2, KF_2_1, SH_14, KF_2_3, KF_2_4, KF_2_5, KF_2_6, KF_2_7, am_ty, am_vc, am_opt, am_cl, am_find, am_ldi, am_ldl, am_lda, am_v, am_1, am_1l, am_1a, am_2, am_2l, am_ix, am_ri, am_arr, am_pf, am_rc, am_mask, am_lg, am_av, am_nat, fv_0, fv_1, fv_2, fv_3, fw_0, fw_1, List.getElem?_cons_zero, List.getElem?_cons_succ, List.set_cons_zero, List.set_cons_succ, List.length_cons, List.length_nil, List.take_succ_cons, List.take_zero, List.drop_succ_cons, List.drop_zero, List.reverse_cons, List.reverse_nil, List.nil_append, List.cons_append, List.append_nil, List.map_cons, List.map_nil, List.sum_cons, List.sum_nil, Value.category, Option.toList_some, Option.toList_none, Nat.reduceAdd, Nat.reduceLT, Nat.reduceLeDiff, Nat.reduceEqDiff, Nat.reduceSub, Nat.add_zero, Nat.le_refl, Nat.zero_le, Int.reduceNeg, Int.reduceLE, Int.reduceLT, true_and, and_true, and_self, if_true, if_false, ite_true, ite_false, eq_self_iff_true, reduceIte, reduceCtorEq, not_false_eq_true, not_true_eq_false, or_true, true_or, or_false, false_or, Nat.lt_irrefl, Nat.zero_lt_succ]
      exact tkv_89 hA (s := .inr (2, tP b Z t)) g2 (h τ g1 g2) _ rfl rfl
    · have est : stT b Z k (.inl t) = .inr (1, tP b Z t) := by show (if tK b Z t = k then _ else _) = _; rw [if_neg (fun q => z (iff.mpr q))]
      rw [est] at h
      try simp only [dX5_take_0, dX5_take_1, FT_X5_33, dX5_take_4, dX5_take_5, xX5_takeE_t5, dX5_take_8, dX5_take_9, dX5_take_10, xX5_takeE_c81, xX5_takeE_n81, dX5_take_13, xX5_takeE_t13, dX5_take_16, dX5_take_17, FT_X5_29, dX5_take_20, dX5_take_23, xX5_takeE_t23, dX5_take_26, dX5_take_27, dX5_take_28, dX5_take_31, xX5_takeE_t31, dX5_take_34, dX5_take_35, dX5_take_36, dX5_take_39, dX5_take_40, dX5_take_41, PT_X5_29, dX5_take_44, dX5_take_45, dX5_take_46, FT_X5_21, dX5_take_49, dX5_take_50, dX5_take_53, xX5_takeE_c62, xX5_takeE_n62, dX5_take_56, PT_X5_33, dX5_take_59, dX5_take_60, dX5_take_61, dX5_take_64, dX5_take_65, dX5_take_68, xX5_takeE_c66, xX5_takeE_n66, dX5_take_71, PT_X5_36, dX5_take_74, dX5_take_75, dX5_take_76, dX5_take_79, dX5_take_80, dX5_take_83, xX5_takeE_c69, xX5_takeE_n69, dX5_take_86, PT_X5_39, dX5_take_89, dX5_take_90, FT_X5_43, dX5_take_93, xX5_takeE_t93, dX5_take_96, dX5_take_97, xX5_takeE_t97, dX5_take_100, dX5_take_101, xX5_takeE_SH, xX5_takeE_KF, xX5_takeE_rt, xX5_takeE_FT, xX5_takeE_PT, xX5_takeE_CT, xX5_takeE_KT, xX5_takeE_LT, xX5_takeE_NT, o_aload_n, o_dup, o_getfield, o_goto, o_iadd, o_iconst, o_ifCond_ne, o_if_icmp_eq, o_if_icmp_lt, o_iload_n, o_invokevirtual, o_ireturn, o_putfield, o_sipush, SH_2, KF_2_1, SH_14, KF_2_3, KF_2_4, KF_2_5, KF_2_6, KF_2_7, am_ty, am_vc, am_opt, am_cl, am_find, am_ldi, am_ldl, am_lda, am_v, am_1, am_1l, am_1a, am_2, am_2l, am_ix, am_ri, am_arr, am_pf, am_rc, am_mask, am_lg, am_av, am_nat, fv_0, fv_1, fv_2, fv_3, fw_0, fw_1, List.getElem?_cons_zero, List.getElem?_cons_succ, List.set_cons_zero, List.set_cons_succ, List.length_cons, List.length_nil, List.take_succ_cons, List.take_zero, List.drop_succ_cons, List.drop_zero, List.reverse_cons, List.reverse_nil, List.nil_append, List.cons_append, List.append_nil, List.map_cons, List.map_nil, List.sum_cons, List.sum_nil, Value.category, Option.toList_some, Option.toList_none, Nat.reduceAdd, Nat.reduceLT, Nat.reduceLeDiff, Nat.reduceEqDiff, Nat.reduceSub, Nat.add_zero, Nat.le_refl, Nat.zero_le, Int.reduceNeg, Int.reduceLE, Int.reduceLT, true_and, and_true, and_self, if_true, if_false, ite_true, ite_false, eq_self_iff_true, reduceIte, reduceCtorEq, not_false_eq_true, not_true_eq_false, or_true, true_or, or_false, false_or, Nat.lt_irrefl, Nat.zero_lt_succ]
      refine hA [(89, 2)] 1 _ _ _ _ _ ?_
      try simp only [dX5_take_0, dX5_take_1, FT_X5_33, dX5_take_4, dX5_take_5, xX5_takeE_t5, dX5_take_8, dX5_take_9, dX5_take_10, xX5_takeE_c81, xX5_takeE_n81, dX5_take_13, xX5_takeE_t13, dX5_take_16, dX5_take_17, FT_X5_29, dX5_take_20, dX5_take_23, xX5_takeE_t23, dX5_take_26, dX5_take_27, dX5_take_28, dX5_take_31, xX5_takeE_t31, dX5_take_34, dX5_take_35, dX5_take_36, dX5_take_39, dX5_take_40, dX5_take_41, PT_X5_29, dX5_take_44, dX5_take_45, dX5_take_46, FT_X5_21, dX5_take_49, dX5_take_50, dX5_take_53, xX5_takeE_c62, xX5_takeE_n62, dX5_take_56, PT_X5_33, dX5_take_59, dX5_take_60, dX5_take_61, dX5_take_64, dX5_take_65, dX5_take_68, xX5_takeE_c66, xX5_takeE_n66, dX5_take_71, PT_X5_36, dX5_take_74, dX5_take_75, dX5_take_76, dX5_take_79, dX5_take_80, dX5_take_83, xX5_takeE_c69, xX5_takeE_n69, dX5_take_86, PT_X5_39, dX5_take_89, dX5_take_90, FT_X5_43, dX5_take_93, xX5_takeE_t93, dX5_take_96, dX5_take_97, xX5_takeE_t97, dX5_take_100, dX5_take_101, xX5_takeE_SH, xX5_takeE_KF, xX5_takeE_rt, xX5_takeE_FT, xX5_takeE_PT, xX5_takeE_CT, xX5_takeE_KT, xX5_takeE_LT, xX5_takeE_NT, o_aload_n, o_dup, o_getfield, o_goto, o_iadd, o_iconst, o_ifCond_ne, o_if_icmp_eq, o_if_icmp_lt, o_iload_n, o_invokevirtual, o_ireturn, o_putfield, o_sipush, SH_2, KF_2_1, SH_14, KF_2_3, KF_2_4, KF_2_5, KF_2_6, KF_2_7, am_ty, am_vc, am_opt, am_cl, am_find, am_ldi, am_ldl, am_lda, am_v, am_1, am_1l, am_1a, am_2, am_2l, am_ix, am_ri, am_arr, am_pf, am_rc, am_mask, am_lg, am_av, am_nat, fv_0, fv_1, fv_2, fv_3, fw_0, fw_1, List.getElem?_cons_zero, List.getElem?_cons_succ, List.set_cons_zero, List.set_cons_succ, List.length_cons, List.length_nil, List.take_succ_cons, List.take_zero, List.drop_succ_cons, List.drop_zero, List.reverse_cons, List.reverse_nil, List.nil_append, List.cons_append, List.append_nil, List.map_cons, List.map_nil, List.sum_cons, List.sum_nil, Value.category, Option.toList_some, Option.toList_none, Nat.reduceAdd, Nat.reduceLT, Nat.reduceLeDiff, Nat.reduceEqDiff, Nat.reduceSub, Nat.add_zero, Nat.le_refl, Nat.zero_le, Int.reduceNeg, Int.reduceLE, Int.reduceLT, true_and, and_true, and_self, if_true, if_false, ite_true, ite_false, eq_self_iff_true, reduceIte, reduceCtorEq, not_false_eq_true, not_true_eq_false, or_true, true_or, or_false, false_or, Nat.lt_irrefl, Nat.zero_lt_succ]
      exact tkv_89 hA (s := .inr (1, tP b Z t)) g2 (h τ g1 g2) _ rfl rfl
theorem mX5_takeE (l : Launch) : am_M l TB NB vwCl SH KF yX5_take cX5_take 2 (some .boolean) 3 0 0 sX5_takeE := by
  refine am_M.of xX5_takeE (by decide +kernel) TB_good GF rfl rfl rfl (by decide) ⟨FT_X5_ok, PT_X5_ok _, CT_X5_ok, KT_X5_ok, LT_X5_ok, NT_X5_ok, ?_⟩ ptX5_takeE
  exact List.forall_mem_cons.mpr ⟨⟨yX8_kindOf, cX8_kindOf, 2, (some .int), 2, 1, mX8_kindOfE l, by decide, by decide, tk_583, tk_107, ⟨by decide +kernel, by decide +kernel, by decide +kernel⟩, rfl, tk_580, tk_581, ⟨(RX8, TX8, 5), rfl, tk_582⟩⟩, List.forall_mem_cons.mpr ⟨⟨yX8_placeOf, cX8_placeOf, 2, (some .int), 2, 1, mX8_placeOfE l, by decide, by decide, tk_587, tk_107, ⟨by decide +kernel, by decide +kernel, by decide +kernel⟩, rfl, tk_584, tk_585, ⟨(RX8, TX8, 5), rfl, tk_586⟩⟩, List.forall_mem_cons.mpr ⟨⟨yX8_worthOf, cX8_worthOf, 2, (some .long), 2, 1, mX8_worthOfE l, by decide, by decide, tk_591, tk_107, ⟨by decide +kernel, by decide +kernel, by decide +kernel⟩, rfl, tk_588, tk_589, ⟨(RX8, TX8, 5), rfl, tk_590⟩⟩, List.forall_mem_cons.mpr ⟨⟨yX5_fail, cX5_fail, 2, none, 2, 1, mX5_failE l, by decide, by decide, tk_607, tk_104, ⟨by decide +kernel, by decide +kernel, by decide +kernel⟩, rfl, tk_604, tk_606, ⟨(RX5, TX5, 11), rfl, tb_at 6 (by decide +kernel) (by decide +kernel)⟩⟩, fun _ h => absurd h List.not_mem_nil⟩⟩⟩⟩

