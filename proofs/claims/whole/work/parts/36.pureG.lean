/-! pure: how many such nestings there are -/
theorem sp_1296 : ((List.range 7776).filter sp_ac).length = 1296 := by decide +kernel
