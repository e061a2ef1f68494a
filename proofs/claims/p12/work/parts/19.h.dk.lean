/-! DECODING QUICKLY: a row of a code by its bytes. Printed by wip/am/chk/mkdk.py. -/
noncomputable def dk_l (l : List UInt8) : Nat → Nat := List.rec (motive := fun _ => Nat → Nat) (fun _ => 256) (fun x _ ih i => Nat.rec (motive := fun _ => Nat) x.toNat (fun j _ => ih j) i) l
theorem dk_lt : ∀ (l : List UInt8) (i : Nat), dk_l l i < 256 → ∃ h : i < l.length, l[i].toNat = dk_l l i
  | [], i, h => absurd (show 256 < 256 from h) (by decide)
  | x :: l, 0, h => ⟨Nat.succ_pos _, rfl⟩
  | x :: l, i + 1, h => by
    obtain ⟨a, b⟩ := dk_lt l i h
    exact ⟨Nat.succ_lt_succ a, b⟩
noncomputable def dk_b (c : ByteArray) (p : Nat) : Nat := dk_l c.data.toList p
theorem dk_u1 {c : ByteArray} {p : Nat} (h : dk_b c p < 256) : (Jvm.ClassFile.Reader.u1 : Jvm.ClassFile.Decoder Nat).runAt c p = .ok (dk_b c p, p + 1) := by
  obtain ⟨a, b⟩ := dk_lt _ _ h
  have e : p < c.size := a
  have g : c[p].toNat = dk_b c p := b
  have k : (Jvm.ClassFile.Reader.u1 : Jvm.ClassFile.Decoder Nat).runAt c p = .ok (c[p].toNat, p + 1) := by
    show ((if h : p < c.size then (do set (p + 1); Pure.pure c[p].toNat) else throw (Jvm.ClassFile.HasTruncated.truncated p)) : Jvm.ClassFile.Decoder Nat) c p = _
    rw [dif_pos e]
    rfl
  rw [k, g]
theorem dk_bind {α β : Type} {r : Jvm.ClassFile.Decoder α} {k : α → Jvm.ClassFile.Decoder β} {c : ByteArray} {p q : Nat} {a : α} (h : r.runAt c p = .ok (a, q)) : (r >>= k).runAt c p = (k a).runAt c q := by
  have h : r c p = .ok (a, q) := h
  show Except.bind (r c p) (fun z => k z.1 c z.2) = _
  rw [h]
  rfl
theorem dk_map {α β : Type} {r : Jvm.ClassFile.Decoder α} {f : α → β} {c : ByteArray} {p q : Nat} {a : α} (h : r.runAt c p = .ok (a, q)) : (f <$> r).runAt c p = .ok (f a, q) := by
  have h : r c p = .ok (a, q) := h
  show Except.bind (r c p) (fun z => Except.ok (f z.1, z.2)) = _
  rw [h]
  rfl
theorem dk_u2 {c : ByteArray} {p : Nat} (h : dk_b c p < 256) (h1 : dk_b c (p + 1) < 256) : (Jvm.ClassFile.Reader.u2 : Jvm.ClassFile.Decoder Nat).runAt c p = .ok (dk_b c p * 256 + dk_b c (p + 1), p + 2) := by
  unfold Jvm.ClassFile.Reader.u2
  rw [dk_bind (dk_u1 h), dk_bind (dk_u1 h1)]
  rfl
theorem dk_s1 {c : ByteArray} {p : Nat} (h : dk_b c p < 256) : (Jvm.ClassFile.Reader.s1 : Jvm.ClassFile.Decoder Int).runAt c p = .ok (Jvm.ClassFile.Reader.signed 8 (dk_b c p), p + 1) := dk_map (dk_u1 h)
theorem dk_s2 {c : ByteArray} {p : Nat} (h : dk_b c p < 256) (h1 : dk_b c (p + 1) < 256) : (Jvm.ClassFile.Reader.s2 : Jvm.ClassFile.Decoder Int).runAt c p = .ok (Jvm.ClassFile.Reader.signed 16 (dk_b c p * 256 + dk_b c (p + 1)), p + 2) := dk_map (dk_u2 h h1)
theorem dk_st {c : ByteArray} {pc b len : Nat} {i : Instr} {F : Nat → Jvm.ClassFile.Decoder Instr} (hF : Jvm.ClassFile.Decoder.instr pc = (Jvm.ClassFile.Reader.u1 : Jvm.ClassFile.Decoder Nat) >>= F) (h : dk_b c pc = b) (hb : b < 256) (hr : (F b).runAt c (pc + 1) = .ok (i, pc + len)) : decode c pc = .ok (i, len) := by
  have k : (Jvm.ClassFile.Decoder.instr pc).runAt c pc = .ok (i, pc + len) := by
    rw [hF, dk_bind (dk_u1 (by rw [h]; exact hb)), h]
    exact hr
  unfold decode
  rw [k]
  show Except.ok (i, pc + len - pc) = _
  rw [Nat.add_sub_cancel_left]
abbrev dkF (pc : Nat) (F : Nat → Jvm.ClassFile.Decoder Instr) : Prop := Jvm.ClassFile.Decoder.instr pc = (Jvm.ClassFile.Reader.u1 : Jvm.ClassFile.Decoder Nat) >>= F
theorem dk_and {a b : Bool} (h : (a && b) = true) : a = true ∧ b = true := by
  cases a
  · cases h
  · exact ⟨rfl, h⟩
theorem dk_eq {a b : Nat} (h : Nat.beq a b = true) : a = b := Nat.eq_of_beq_eq_true h
theorem dk_le {a : Nat} (h : Nat.ble a 255 = true) : a < 256 := Nat.lt_succ_of_le (Nat.le_of_ble_eq_true h)
noncomputable def dk_1 (c : ByteArray) (pc len b : Nat) : Bool := Nat.beq (dk_b c pc) b && Nat.beq len 1
theorem dk_1_ok {c : ByteArray} {pc len b : Nat} {i : Instr} {F : Nat → Jvm.ClassFile.Decoder Instr} (hF : dkF pc F) (hr : F b = Pure.pure i) (hb : b < 256) (h : dk_1 c pc len b = true) : decode c pc = .ok (i, len) := by
  have h := dk_and h
  rw [dk_eq h.2]
  exact dk_st hF (dk_eq h.1) hb (by rw [hr]; rfl)
noncomputable def dk_2 (c : ByteArray) (pc len b n : Nat) : Bool := Nat.beq (dk_b c pc) b && (Nat.beq len 2 && (Nat.ble (dk_b c (pc + 1)) 255 && Nat.beq (dk_b c (pc + 1)) n))
theorem dk_2_ok {c : ByteArray} {pc len b n : Nat} {g : Nat → Instr} {F : Nat → Jvm.ClassFile.Decoder Instr} (hF : dkF pc F) (hr : F b = (Jvm.ClassFile.Reader.u1 : Jvm.ClassFile.Decoder Nat) >>= fun x => Pure.pure (g x)) (hb : b < 256) (h : dk_2 c pc len b n = true) : decode c pc = .ok (g n, len) := by
  obtain ⟨h, h2, h3, h4⟩ := (⟨(dk_and h).1, (dk_and (dk_and h).2).1, (dk_and (dk_and (dk_and h).2).2).1, (dk_and (dk_and (dk_and h).2).2).2⟩ : _ ∧ _ ∧ _ ∧ _)
  rw [dk_eq h2, ← dk_eq h4]
  exact dk_st hF (dk_eq h) hb (by rw [hr, dk_bind (dk_u1 (dk_le h3))]; rfl)
noncomputable def dk_3 (c : ByteArray) (pc len b n : Nat) : Bool := Nat.beq (dk_b c pc) b && (Nat.beq len 3 && (Nat.ble (dk_b c (pc + 1)) 255 && (Nat.ble (dk_b c (pc + 2)) 255 && Nat.beq (dk_b c (pc + 1) * 256 + dk_b c (pc + 2)) n)))
theorem dk_3_ok {c : ByteArray} {pc len b n : Nat} {g : Nat → Instr} {F : Nat → Jvm.ClassFile.Decoder Instr} (hF : dkF pc F) (hr : F b = (Jvm.ClassFile.Reader.u2 : Jvm.ClassFile.Decoder Nat) >>= fun x => Pure.pure (g x)) (hb : b < 256) (h : dk_3 c pc len b n = true) : decode c pc = .ok (g n, len) := by
  have a1 := dk_and h
  have a2 := dk_and a1.2
  have a3 := dk_and a2.2
  have a4 := dk_and a3.2
  rw [dk_eq a2.1, ← dk_eq a4.2]
  exact dk_st hF (dk_eq a1.1) hb (by rw [hr, dk_bind (dk_u2 (dk_le a3.1) (dk_le a4.1))]; rfl)
noncomputable def dk_4 (c : ByteArray) (pc len b : Nat) (v : Int) : Bool := Nat.beq (dk_b c pc) b && (Nat.beq len 2 && (Nat.ble (dk_b c (pc + 1)) 255 && decide (Jvm.ClassFile.Reader.signed 8 (dk_b c (pc + 1)) = v)))
theorem dk_4_ok {c : ByteArray} {pc len b : Nat} {v : Int} {g : Int → Instr} {F : Nat → Jvm.ClassFile.Decoder Instr} (hF : dkF pc F) (hr : F b = (Jvm.ClassFile.Reader.s1 : Jvm.ClassFile.Decoder Int) >>= fun x => Pure.pure (g x)) (hb : b < 256) (h : dk_4 c pc len b v = true) : decode c pc = .ok (g v, len) := by
  have a1 := dk_and h
  have a2 := dk_and a1.2
  have a3 := dk_and a2.2
  rw [dk_eq a2.1, ← of_decide_eq_true a3.2]
  exact dk_st hF (dk_eq a1.1) hb (by rw [hr, dk_bind (dk_s1 (dk_le a3.1))]; rfl)
noncomputable def dk_5 (c : ByteArray) (pc len b : Nat) (v : Int) : Bool := Nat.beq (dk_b c pc) b && (Nat.beq len 3 && (Nat.ble (dk_b c (pc + 1)) 255 && (Nat.ble (dk_b c (pc + 2)) 255 && decide (Jvm.ClassFile.Reader.signed 16 (dk_b c (pc + 1) * 256 + dk_b c (pc + 2)) = v))))
theorem dk_5_ok {c : ByteArray} {pc len b : Nat} {v : Int} {g : Int → Instr} {F : Nat → Jvm.ClassFile.Decoder Instr} (hF : dkF pc F) (hr : F b = (Jvm.ClassFile.Reader.s2 : Jvm.ClassFile.Decoder Int) >>= fun x => Pure.pure (g x)) (hb : b < 256) (h : dk_5 c pc len b v = true) : decode c pc = .ok (g v, len) := by
  have a1 := dk_and h
  have a2 := dk_and a1.2
  have a3 := dk_and a2.2
  have a4 := dk_and a3.2
  rw [dk_eq a2.1, ← of_decide_eq_true a4.2]
  exact dk_st hF (dk_eq a1.1) hb (by rw [hr, dk_bind (dk_s2 (dk_le a3.1) (dk_le a4.1))]; rfl)
noncomputable def dk_6 (c : ByteArray) (pc len n : Nat) (v : Int) : Bool := Nat.beq (dk_b c pc) 132 && (Nat.beq len 3 && (Nat.ble (dk_b c (pc + 1)) 255 && (Nat.ble (dk_b c (pc + 2)) 255 && (Nat.beq (dk_b c (pc + 1)) n && decide (Jvm.ClassFile.Reader.signed 8 (dk_b c (pc + 2)) = v)))))
theorem dk_6_ok {c : ByteArray} {pc len n : Nat} {v : Int} {F : Nat → Jvm.ClassFile.Decoder Instr} (hF : dkF pc F) (hr : F 132 = (Jvm.ClassFile.Reader.u1 : Jvm.ClassFile.Decoder Nat) >>= fun x => (Jvm.ClassFile.Reader.s1 : Jvm.ClassFile.Decoder Int) >>= fun y => Pure.pure (Instr.iinc x y)) (h : dk_6 c pc len n v = true) : decode c pc = .ok (Instr.iinc n v, len) := by
  have a1 := dk_and h
  have a2 := dk_and a1.2
  have a3 := dk_and a2.2
  have a4 := dk_and a3.2
  have a5 := dk_and a4.2
  rw [dk_eq a2.1, ← dk_eq a5.1, ← of_decide_eq_true a5.2]
  exact dk_st hF (dk_eq a1.1) (by decide) (by rw [hr, dk_bind (dk_u1 (dk_le a3.1)), dk_bind (dk_s1 (dk_le a4.1))]; rfl)
noncomputable def dk_cd : Jvm.ClassFile.Cond → Nat := fun k => match k with
  | .eq => 0
  | .ne => 1
  | .lt => 2
  | .ge => 3
  | .gt => 4
  | .le => 5
noncomputable def dk_ic : Int → Nat := fun v => match v with
  | .ofNat n => 3 + n
  | .negSucc 0 => 2
  | .negSucc (_ + 1) => 9
noncomputable def dk_c (c : ByteArray) (pc : Nat) (i : Instr) (len : Nat) : Bool := match i with
  | .iaload => dk_1 c pc len 46
  | .laload => dk_1 c pc len 47
  | .aaload => dk_1 c pc len 50
  | .baload => dk_1 c pc len 51
  | .iastore => dk_1 c pc len 79
  | .lastore => dk_1 c pc len 80
  | .aastore => dk_1 c pc len 83
  | .bastore => dk_1 c pc len 84
  | .pop => dk_1 c pc len 87
  | .dup => dk_1 c pc len 89
  | .dup_x1 => dk_1 c pc len 90
  | .dup2 => dk_1 c pc len 92
  | .iadd => dk_1 c pc len 96
  | .ladd => dk_1 c pc len 97
  | .isub => dk_1 c pc len 100
  | .lsub => dk_1 c pc len 101
  | .imul => dk_1 c pc len 104
  | .lmul => dk_1 c pc len 105
  | .idiv => dk_1 c pc len 108
  | .irem => dk_1 c pc len 112
  | .ineg => dk_1 c pc len 116
  | .ishl => dk_1 c pc len 120
  | .ishr => dk_1 c pc len 122
  | .iushr => dk_1 c pc len 124
  | .lushr => dk_1 c pc len 125
  | .iand => dk_1 c pc len 126
  | .ior => dk_1 c pc len 128
  | .ixor => dk_1 c pc len 130
  | .lxor => dk_1 c pc len 131
  | .i2l => dk_1 c pc len 133
  | .l2i => dk_1 c pc len 136
  | .i2b => dk_1 c pc len 145
  | .i2c => dk_1 c pc len 146
  | .lcmp => dk_1 c pc len 148
  | .ireturn => dk_1 c pc len 172
  | .lreturn => dk_1 c pc len 173
  | .areturn => dk_1 c pc len 176
  | .return_ => dk_1 c pc len 177
  | .arraylength => dk_1 c pc len 190
  | .athrow => dk_1 c pc len 191
  | .aload_n k => dk_1 c pc len (42 + k.val)
  | .iload_n k => dk_1 c pc len (26 + k.val)
  | .istore_n k => dk_1 c pc len (59 + k.val)
  | .lload_n k => dk_1 c pc len (30 + k.val)
  | .lstore_n k => dk_1 c pc len (63 + k.val)
  | .astore_n k => dk_1 c pc len (75 + k.val)
  | .iload n => dk_2 c pc len 21 n
  | .lload n => dk_2 c pc len 22 n
  | .aload n => dk_2 c pc len 25 n
  | .istore n => dk_2 c pc len 54 n
  | .lstore n => dk_2 c pc len 55 n
  | .astore n => dk_2 c pc len 58 n
  | .getstatic n => dk_3 c pc len 178 n
  | .putstatic n => dk_3 c pc len 179 n
  | .getfield n => dk_3 c pc len 180 n
  | .putfield n => dk_3 c pc len 181 n
  | .invokevirtual n => dk_3 c pc len 182 n
  | .invokespecial n => dk_3 c pc len 183 n
  | .invokestatic n => dk_3 c pc len 184 n
  | .new n => dk_3 c pc len 187 n
  | .anewarray n => dk_3 c pc len 189 n
  | .ldc_w n => dk_3 c pc len 19 n
  | .ldc2_w n => dk_3 c pc len 20 n
  | .sipush v => dk_5 c pc len 17 v
  | .goto v => dk_5 c pc len 167 v
  | .ifCond k v => dk_5 c pc len (153 + dk_cd k) v
  | .if_icmp k v => dk_5 c pc len (159 + dk_cd k) v
  | .bipush v => dk_4 c pc len 16 v
  | .iinc n v => dk_6 c pc len n v
  | .iconst v => Nat.ble (dk_ic v) 8 && dk_1 c pc len (dk_ic v)
  | i => decide (decode c pc = .ok (i, len))
theorem dk_ok {c : ByteArray} {pc : Nat} {i : Instr} {len : Nat} (h : dk_c c pc i len = true) : decode c pc = .ok (i, len) := by
  cases i
  case iaload => exact dk_1_ok (b := 46) rfl rfl (by decide) h
  case laload => exact dk_1_ok (b := 47) rfl rfl (by decide) h
  case aaload => exact dk_1_ok (b := 50) rfl rfl (by decide) h
  case baload => exact dk_1_ok (b := 51) rfl rfl (by decide) h
  case iastore => exact dk_1_ok (b := 79) rfl rfl (by decide) h
  case lastore => exact dk_1_ok (b := 80) rfl rfl (by decide) h
  case aastore => exact dk_1_ok (b := 83) rfl rfl (by decide) h
  case bastore => exact dk_1_ok (b := 84) rfl rfl (by decide) h
  case pop => exact dk_1_ok (b := 87) rfl rfl (by decide) h
  case dup => exact dk_1_ok (b := 89) rfl rfl (by decide) h
  case dup_x1 => exact dk_1_ok (b := 90) rfl rfl (by decide) h
  case dup2 => exact dk_1_ok (b := 92) rfl rfl (by decide) h
  case iadd => exact dk_1_ok (b := 96) rfl rfl (by decide) h
  case ladd => exact dk_1_ok (b := 97) rfl rfl (by decide) h
  case isub => exact dk_1_ok (b := 100) rfl rfl (by decide) h
  case lsub => exact dk_1_ok (b := 101) rfl rfl (by decide) h
  case imul => exact dk_1_ok (b := 104) rfl rfl (by decide) h
  case lmul => exact dk_1_ok (b := 105) rfl rfl (by decide) h
  case idiv => exact dk_1_ok (b := 108) rfl rfl (by decide) h
  case irem => exact dk_1_ok (b := 112) rfl rfl (by decide) h
  case ineg => exact dk_1_ok (b := 116) rfl rfl (by decide) h
  case ishl => exact dk_1_ok (b := 120) rfl rfl (by decide) h
  case ishr => exact dk_1_ok (b := 122) rfl rfl (by decide) h
  case iushr => exact dk_1_ok (b := 124) rfl rfl (by decide) h
  case lushr => exact dk_1_ok (b := 125) rfl rfl (by decide) h
  case iand => exact dk_1_ok (b := 126) rfl rfl (by decide) h
  case ior => exact dk_1_ok (b := 128) rfl rfl (by decide) h
  case ixor => exact dk_1_ok (b := 130) rfl rfl (by decide) h
  case lxor => exact dk_1_ok (b := 131) rfl rfl (by decide) h
  case i2l => exact dk_1_ok (b := 133) rfl rfl (by decide) h
  case l2i => exact dk_1_ok (b := 136) rfl rfl (by decide) h
  case i2b => exact dk_1_ok (b := 145) rfl rfl (by decide) h
  case i2c => exact dk_1_ok (b := 146) rfl rfl (by decide) h
  case lcmp => exact dk_1_ok (b := 148) rfl rfl (by decide) h
  case ireturn => exact dk_1_ok (b := 172) rfl rfl (by decide) h
  case lreturn => exact dk_1_ok (b := 173) rfl rfl (by decide) h
  case areturn => exact dk_1_ok (b := 176) rfl rfl (by decide) h
  case return_ => exact dk_1_ok (b := 177) rfl rfl (by decide) h
  case arraylength => exact dk_1_ok (b := 190) rfl rfl (by decide) h
  case athrow => exact dk_1_ok (b := 191) rfl rfl (by decide) h
  case aload_n k =>
    obtain ⟨k, hk⟩ := k
    rcases (by omega : k = 0 ∨ k = 1 ∨ k = 2 ∨ k = 3) with rfl | rfl | rfl | rfl
    · exact dk_1_ok (b := 42) rfl rfl (by decide) h
    · exact dk_1_ok (b := 43) rfl rfl (by decide) h
    · exact dk_1_ok (b := 44) rfl rfl (by decide) h
    · exact dk_1_ok (b := 45) rfl rfl (by decide) h
  case iload_n k =>
    obtain ⟨k, hk⟩ := k
    rcases (by omega : k = 0 ∨ k = 1 ∨ k = 2 ∨ k = 3) with rfl | rfl | rfl | rfl
    · exact dk_1_ok (b := 26) rfl rfl (by decide) h
    · exact dk_1_ok (b := 27) rfl rfl (by decide) h
    · exact dk_1_ok (b := 28) rfl rfl (by decide) h
    · exact dk_1_ok (b := 29) rfl rfl (by decide) h
  case istore_n k =>
    obtain ⟨k, hk⟩ := k
    rcases (by omega : k = 0 ∨ k = 1 ∨ k = 2 ∨ k = 3) with rfl | rfl | rfl | rfl
    · exact dk_1_ok (b := 59) rfl rfl (by decide) h
    · exact dk_1_ok (b := 60) rfl rfl (by decide) h
    · exact dk_1_ok (b := 61) rfl rfl (by decide) h
    · exact dk_1_ok (b := 62) rfl rfl (by decide) h
  case lload_n k =>
    obtain ⟨k, hk⟩ := k
    rcases (by omega : k = 0 ∨ k = 1 ∨ k = 2 ∨ k = 3) with rfl | rfl | rfl | rfl
    · exact dk_1_ok (b := 30) rfl rfl (by decide) h
    · exact dk_1_ok (b := 31) rfl rfl (by decide) h
    · exact dk_1_ok (b := 32) rfl rfl (by decide) h
    · exact dk_1_ok (b := 33) rfl rfl (by decide) h
  case lstore_n k =>
    obtain ⟨k, hk⟩ := k
    rcases (by omega : k = 0 ∨ k = 1 ∨ k = 2 ∨ k = 3) with rfl | rfl | rfl | rfl
    · exact dk_1_ok (b := 63) rfl rfl (by decide) h
    · exact dk_1_ok (b := 64) rfl rfl (by decide) h
    · exact dk_1_ok (b := 65) rfl rfl (by decide) h
    · exact dk_1_ok (b := 66) rfl rfl (by decide) h
  case astore_n k =>
    obtain ⟨k, hk⟩ := k
    rcases (by omega : k = 0 ∨ k = 1 ∨ k = 2 ∨ k = 3) with rfl | rfl | rfl | rfl
    · exact dk_1_ok (b := 75) rfl rfl (by decide) h
    · exact dk_1_ok (b := 76) rfl rfl (by decide) h
    · exact dk_1_ok (b := 77) rfl rfl (by decide) h
    · exact dk_1_ok (b := 78) rfl rfl (by decide) h
  case iload n => exact dk_2_ok (b := 21) (g := Instr.iload) rfl rfl (by decide) h
  case lload n => exact dk_2_ok (b := 22) (g := Instr.lload) rfl rfl (by decide) h
  case aload n => exact dk_2_ok (b := 25) (g := Instr.aload) rfl rfl (by decide) h
  case istore n => exact dk_2_ok (b := 54) (g := Instr.istore) rfl rfl (by decide) h
  case lstore n => exact dk_2_ok (b := 55) (g := Instr.lstore) rfl rfl (by decide) h
  case astore n => exact dk_2_ok (b := 58) (g := Instr.astore) rfl rfl (by decide) h
  case getstatic n => exact dk_3_ok (b := 178) (g := Instr.getstatic) rfl rfl (by decide) h
  case putstatic n => exact dk_3_ok (b := 179) (g := Instr.putstatic) rfl rfl (by decide) h
  case getfield n => exact dk_3_ok (b := 180) (g := Instr.getfield) rfl rfl (by decide) h
  case putfield n => exact dk_3_ok (b := 181) (g := Instr.putfield) rfl rfl (by decide) h
  case invokevirtual n => exact dk_3_ok (b := 182) (g := Instr.invokevirtual) rfl rfl (by decide) h
  case invokespecial n => exact dk_3_ok (b := 183) (g := Instr.invokespecial) rfl rfl (by decide) h
  case invokestatic n => exact dk_3_ok (b := 184) (g := Instr.invokestatic) rfl rfl (by decide) h
  case new n => exact dk_3_ok (b := 187) (g := Instr.new) rfl rfl (by decide) h
  case anewarray n => exact dk_3_ok (b := 189) (g := Instr.anewarray) rfl rfl (by decide) h
  case ldc_w n => exact dk_3_ok (b := 19) (g := Instr.ldc_w) rfl rfl (by decide) h
  case ldc2_w n => exact dk_3_ok (b := 20) (g := Instr.ldc2_w) rfl rfl (by decide) h
  case sipush v => exact dk_5_ok (b := 17) (g := Instr.sipush) rfl rfl (by decide) h
  case goto v => exact dk_5_ok (b := 167) (g := Instr.goto) rfl rfl (by decide) h
  case ifCond k v =>
    cases k
    · exact dk_5_ok (b := 153) (g := Instr.ifCond .eq) rfl rfl (by decide) h
    · exact dk_5_ok (b := 154) (g := Instr.ifCond .ne) rfl rfl (by decide) h
    · exact dk_5_ok (b := 155) (g := Instr.ifCond .lt) rfl rfl (by decide) h
    · exact dk_5_ok (b := 156) (g := Instr.ifCond .ge) rfl rfl (by decide) h
    · exact dk_5_ok (b := 157) (g := Instr.ifCond .gt) rfl rfl (by decide) h
    · exact dk_5_ok (b := 158) (g := Instr.ifCond .le) rfl rfl (by decide) h
  case if_icmp k v =>
    cases k
    · exact dk_5_ok (b := 159) (g := Instr.if_icmp .eq) rfl rfl (by decide) h
    · exact dk_5_ok (b := 160) (g := Instr.if_icmp .ne) rfl rfl (by decide) h
    · exact dk_5_ok (b := 161) (g := Instr.if_icmp .lt) rfl rfl (by decide) h
    · exact dk_5_ok (b := 162) (g := Instr.if_icmp .ge) rfl rfl (by decide) h
    · exact dk_5_ok (b := 163) (g := Instr.if_icmp .gt) rfl rfl (by decide) h
    · exact dk_5_ok (b := 164) (g := Instr.if_icmp .le) rfl rfl (by decide) h
  case bipush v => exact dk_4_ok (b := 16) (g := Instr.bipush) rfl rfl (by decide) h
  case iinc n v => exact dk_6_ok rfl rfl h
  case iconst v =>
    have h := dk_and h
    cases v with
    | ofNat n =>
      have hn : 3 + n ≤ 8 := Nat.le_of_ble_eq_true h.1
      rcases (by omega : n = 0 ∨ n = 1 ∨ n = 2 ∨ n = 3 ∨ n = 4 ∨ n = 5) with rfl | rfl | rfl | rfl | rfl | rfl
      · exact dk_1_ok (b := 3) rfl rfl (by decide) h.2
      · exact dk_1_ok (b := 4) rfl rfl (by decide) h.2
      · exact dk_1_ok (b := 5) rfl rfl (by decide) h.2
      · exact dk_1_ok (b := 6) rfl rfl (by decide) h.2
      · exact dk_1_ok (b := 7) rfl rfl (by decide) h.2
      · exact dk_1_ok (b := 8) rfl rfl (by decide) h.2
    | negSucc n =>
      cases n with
      | zero => exact dk_1_ok (b := 2) rfl rfl (by decide) h.2
      | succ n => exact absurd (Nat.le_of_ble_eq_true h.1) (by show ¬ 9 ≤ 8; decide)
  all_goals exact of_decide_eq_true h
noncomputable def dk_q (cc : ByteArray) (q : Nat × Instr × Nat) : Bool := dk_c cc q.1 q.2.1 q.2.2
theorem dk_D_ok {cc : ByteArray} {D : List (Nat × Instr × Nat)} (h : D.all (dk_q cc) = true) : ∀ pc q, am_find D pc = some q → decode cc pc = .ok q := fun pc q hq => dk_ok (List.all_eq_true.mp h (pc, q) (am_find_mem hq))
