-- appends, word: some number
-- plain(s)
def xX12_plain : am_X := (SH, KF, none, FT_X12, PT_X12, CT_X12, KT_X12, LT_X12, NT_X12, [])
theorem xX12_plain_SH : am_SH xX12_plain = SH := rfl
theorem xX12_plain_KF : am_KF xX12_plain = KF := rfl
theorem xX12_plain_rt : am_rt xX12_plain = none := rfl
theorem xX12_plain_FT : am_FT xX12_plain = FT_X12 := rfl
theorem xX12_plain_PT : am_PT xX12_plain = PT_X12 := rfl
theorem xX12_plain_CT : am_CT xX12_plain = CT_X12 := rfl
theorem xX12_plain_KT : am_KT xX12_plain = KT_X12 := rfl
theorem xX12_plain_LT : am_LT xX12_plain = LT_X12 := rfl
theorem xX12_plain_NT : am_NT xX12_plain = NT_X12 := rfl
theorem xX12_plain_t26 (k : Nat → Prop) : am_tg 26 (31) k = k 57 := am_tg_eq (by decide)
theorem xX12_plain_t54 (k : Nat → Prop) : am_tg 54 (-30) k = k 24 := am_tg_eq (by decide)
