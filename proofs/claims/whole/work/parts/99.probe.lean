theorem hz_1 : goodWord (.fieldLinkNest "a" 1 "b" "c" "I" "e") = true := by decide +kernel
theorem hz_2 : goodWord (.methodLinkNest "a" 1 ⟨"b", "c", "()V"⟩ "e") = true := by decide +kernel
theorem hz_3 : goodWord (.stringRef "a" 1 "b") = true := by decide +kernel
theorem hz_4 : goodWord (.codeWith ⟨"b", "c", "()V"⟩ code 1 none [(1,2,3,4)]) = true := by decide +kernel
theorem hz_5 : (lw_tbl.filter (fun w => !goodWord w)).length = 0 := by decide +kernel
theorem hz_6 : lw_tbl.length = 0 := by decide +kernel
