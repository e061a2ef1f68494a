-- Tokens()
theorem dX8_isSign_0 : decode cX8_isSign 0 = .ok (.iconst 0, 1) := dk_ok (by decide +kernel)
theorem dX8_isSign_1 : decode cX8_isSign 1 = .ok (.istore_n 1, 1) := dk_ok (by decide +kernel)
theorem dX8_isSign_2 : decode cX8_isSign 2 = .ok (.iload_n 1, 1) := dk_ok (by decide +kernel)
theorem dX8_isSign_3 : decode cX8_isSign 3 = .ok (.ldc 82, 2) := dk_ok (by decide +kernel)
theorem dX8_isSign_5 : decode cX8_isSign 5 = .ok (.invokevirtual 29, 3) := dk_ok (by decide +kernel)
theorem dX8_isSign_8 : decode cX8_isSign 8 = .ok (.if_icmp .ge 21, 3) := dk_ok (by decide +kernel)
theorem dX8_isSign_11 : decode cX8_isSign 11 = .ok (.ldc 82, 2) := dk_ok (by decide +kernel)
theorem dX8_isSign_13 : decode cX8_isSign 13 = .ok (.iload_n 1, 1) := dk_ok (by decide +kernel)
theorem dX8_isSign_14 : decode cX8_isSign 14 = .ok (.invokevirtual 35, 3) := dk_ok (by decide +kernel)
theorem dX8_isSign_17 : decode cX8_isSign 17 = .ok (.iload_n 0, 1) := dk_ok (by decide +kernel)
theorem dX8_isSign_18 : decode cX8_isSign 18 = .ok (.if_icmp .ne 5, 3) := dk_ok (by decide +kernel)
theorem dX8_isSign_21 : decode cX8_isSign 21 = .ok (.iconst 1, 1) := dk_ok (by decide +kernel)
theorem dX8_isSign_22 : decode cX8_isSign 22 = .ok (.ireturn, 1) := dk_ok (by decide +kernel)
theorem dX8_isSign_23 : decode cX8_isSign 23 = .ok (.iinc 1 1, 3) := dk_ok (by decide +kernel)
theorem dX8_isSign_26 : decode cX8_isSign 26 = .ok (.goto (-24), 3) := dk_ok (by decide +kernel)
theorem dX8_isSign_29 : decode cX8_isSign 29 = .ok (.iconst 0, 1) := dk_ok (by decide +kernel)
theorem dX8_isSign_30 : decode cX8_isSign 30 = .ok (.ireturn, 1) := dk_ok (by decide +kernel)

def xX8_isSign : am_X := (SH, KF, (some .boolean), FT_X8, PT_X8, CT_X8, KT_X8, LT_X8, NT_X8, [])
theorem xX8_isSign_SH : am_SH xX8_isSign = SH := rfl
theorem xX8_isSign_KF : am_KF xX8_isSign = KF := rfl
theorem xX8_isSign_rt : am_rt xX8_isSign = (some .boolean) := rfl
theorem xX8_isSign_FT : am_FT xX8_isSign = FT_X8 := rfl
theorem xX8_isSign_PT : am_PT xX8_isSign = PT_X8 := rfl
theorem xX8_isSign_CT : am_CT xX8_isSign = CT_X8 := rfl
theorem xX8_isSign_KT : am_KT xX8_isSign = KT_X8 := rfl
theorem xX8_isSign_LT : am_LT xX8_isSign = LT_X8 := rfl
theorem xX8_isSign_NT : am_NT xX8_isSign = NT_X8 := rfl
theorem xX8_isSign_t8 (k : Nat → Prop) : am_tg 8 (21) k = k 29 := am_tg_eq (by decide)
theorem xX8_isSign_t18 (k : Nat → Prop) : am_tg 18 (5) k = k 23 := am_tg_eq (by decide)
theorem xX8_isSign_t26 (k : Nat → Prop) : am_tg 26 (-24) k = k 2 := am_tg_eq (by decide)
