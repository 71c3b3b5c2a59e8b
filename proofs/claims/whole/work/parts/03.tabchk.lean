set_option maxRecDepth 100000 in
theorem fPosA0 : fPos0.all fOk = true := by decide +kernel
set_option maxRecDepth 100000 in
theorem fPosA1 : fPos1.all fOk = true := by decide +kernel
set_option maxRecDepth 100000 in
theorem fPosA2 : fPos2.all fOk = true := by decide +kernel
set_option maxRecDepth 100000 in
theorem fPosA3 : fPos3.all fOk = true := by decide +kernel
set_option maxRecDepth 100000 in
theorem fPosA4 : fPos4.all fOk = true := by decide +kernel
set_option maxRecDepth 100000 in
theorem fPosA5 : fPos5.all fOk = true := by decide +kernel
set_option maxRecDepth 100000 in
theorem fPosA6 : fPos6.all fOk = true := by decide +kernel
theorem fPosA : fPos.all fOk = true := by
  simp only [fPos, List.all_append, fPosA0, fPosA1, fPosA2, fPosA3, fPosA4, fPosA5, fPosA6, Bool.and_self]
set_option maxRecDepth 100000 in
theorem mUseA0 : mUse0.all mOk = true := by decide +kernel
set_option maxRecDepth 100000 in
theorem mUseA1 : mUse1.all mOk = true := by decide +kernel
set_option maxRecDepth 100000 in
theorem mUseA2 : mUse2.all mOk = true := by decide +kernel
set_option maxRecDepth 100000 in
theorem mUseA3 : mUse3.all mOk = true := by decide +kernel
set_option maxRecDepth 100000 in
theorem mUseA4 : mUse4.all mOk = true := by decide +kernel
set_option maxRecDepth 100000 in
theorem mUseA5 : mUse5.all mOk = true := by decide +kernel
set_option maxRecDepth 100000 in
theorem mUseA6 : mUse6.all mOk = true := by decide +kernel
set_option maxRecDepth 100000 in
theorem mUseA7 : mUse7.all mOk = true := by decide +kernel
set_option maxRecDepth 100000 in
theorem mUseA8 : mUse8.all mOk = true := by decide +kernel
set_option maxRecDepth 100000 in
theorem mUseA9 : mUse9.all mOk = true := by decide +kernel
set_option maxRecDepth 100000 in
theorem mUseA10 : mUse10.all mOk = true := by decide +kernel
set_option maxRecDepth 100000 in
theorem mUseA11 : mUse11.all mOk = true := by decide +kernel
set_option maxRecDepth 100000 in
theorem mUseA12 : mUse12.all mOk = true := by decide +kernel
set_option maxRecDepth 100000 in
theorem mUseA13 : mUse13.all mOk = true := by decide +kernel
set_option maxRecDepth 100000 in
theorem mUseA14 : mUse14.all mOk = true := by decide +kernel
set_option maxRecDepth 100000 in
theorem mUseA15 : mUse15.all mOk = true := by decide +kernel
set_option maxRecDepth 100000 in
theorem mUseA16 : mUse16.all mOk = true := by decide +kernel
set_option maxRecDepth 100000 in
theorem mUseA17 : mUse17.all mOk = true := by decide +kernel
set_option maxRecDepth 100000 in
theorem mUseA18 : mUse18.all mOk = true := by decide +kernel
set_option maxRecDepth 100000 in
theorem mUseA19 : mUse19.all mOk = true := by decide +kernel
set_option maxRecDepth 100000 in
theorem mUseA20 : mUse20.all mOk = true := by decide +kernel
set_option maxRecDepth 100000 in
theorem mUseA21 : mUse21.all mOk = true := by decide +kernel
set_option maxRecDepth 100000 in
theorem mUseA22 : mUse22.all mOk = true := by decide +kernel
set_option maxRecDepth 100000 in
theorem mUseA23 : mUse23.all mOk = true := by decide +kernel
set_option maxRecDepth 100000 in
theorem mUseA24 : mUse24.all mOk = true := by decide +kernel
set_option maxRecDepth 100000 in
theorem mUseA25 : mUse25.all mOk = true := by decide +kernel
set_option maxRecDepth 100000 in
theorem mUseA26 : mUse26.all mOk = true := by decide +kernel
set_option maxRecDepth 100000 in
theorem mUseA27 : mUse27.all mOk = true := by decide +kernel
set_option maxRecDepth 100000 in
theorem mUseA28 : mUse28.all mOk = true := by decide +kernel
set_option maxRecDepth 100000 in
theorem mUseA29 : mUse29.all mOk = true := by decide +kernel
theorem mUseA : mUse.all mOk = true := by
  simp only [mUse, List.all_append, mUseA0, mUseA1, mUseA2, mUseA3, mUseA4, mUseA5, mUseA6, mUseA7, mUseA8, mUseA9, mUseA10, mUseA11, mUseA12, mUseA13, mUseA14, mUseA15, mUseA16, mUseA17, mUseA18, mUseA19, mUseA20, mUseA21, mUseA22, mUseA23, mUseA24, mUseA25, mUseA26, mUseA27, mUseA28, mUseA29, Bool.and_self]
set_option maxRecDepth 100000 in
theorem lPosA0 : lPos0.all lOk = true := by decide +kernel
set_option maxRecDepth 100000 in
theorem lPosA1 : lPos1.all lOk = true := by decide +kernel
set_option maxRecDepth 100000 in
theorem lPosA2 : lPos2.all lOk = true := by decide +kernel
set_option maxRecDepth 100000 in
theorem lPosA3 : lPos3.all lOk = true := by decide +kernel
set_option maxRecDepth 100000 in
theorem lPosA4 : lPos4.all lOk = true := by decide +kernel
set_option maxRecDepth 100000 in
theorem lPosA5 : lPos5.all lOk = true := by decide +kernel
set_option maxRecDepth 100000 in
theorem lPosA6 : lPos6.all lOk = true := by decide +kernel
set_option maxRecDepth 100000 in
theorem lPosA7 : lPos7.all lOk = true := by decide +kernel
set_option maxRecDepth 100000 in
theorem lPosA8 : lPos8.all lOk = true := by decide +kernel
set_option maxRecDepth 100000 in
theorem lPosA9 : lPos9.all lOk = true := by decide +kernel
theorem lPosA : lPos.all lOk = true := by
  simp only [lPos, List.all_append, lPosA0, lPosA1, lPosA2, lPosA3, lPosA4, lPosA5, lPosA6, lPosA7, lPosA8, lPosA9, Bool.and_self]
set_option maxRecDepth 100000 in
theorem kPosA0 : kPos0.all kOk = true := by decide +kernel
set_option maxRecDepth 100000 in
theorem kPosA1 : kPos1.all kOk = true := by decide +kernel
theorem kPosA : kPos.all kOk = true := by
  simp only [kPos, List.all_append, kPosA0, kPosA1, Bool.and_self]
set_option maxRecDepth 100000 in
theorem gPosA0 : gPos0.all gOk = true := by decide +kernel
theorem gPosA : gPos.all gOk = true := by
  simp only [gPos, List.all_append, gPosA0, Bool.and_self]
set_option maxRecDepth 100000 in
theorem pWA : pW.all (fun q => decide (lw_tbl[q.1]? = some q.2)) = true := by decide +kernel
