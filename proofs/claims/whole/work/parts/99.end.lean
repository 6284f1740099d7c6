theorem zz_1 : goodWord (Cond.superclass "a" "b") = true := by decide
theorem zz_2 : goodWord (Cond.soleField "a" "b") = true := by decide
theorem zz_3 : goodWord (Cond.castable "a" "b") = true := by decide
theorem zz_4 : goodWord (Cond.laysStatic "a" "b" "c") = true := by decide
theorem zz_5 : goodWord (Cond.declares ⟨"a", "b", "c"⟩) = true := by decide
theorem zz_6 : goodWord (Cond.fieldLink "a" 1 "b" "c" "d") = true := by decide
theorem zz_7 : goodWord (Cond.instantiable "a" 1) = true := by decide
theorem zz_8 : goodWord (Cond.constant "a" 1 3) = true := by decide
theorem zz_9 : goodWord (Cond.codeWith ⟨"a", "b", "c"⟩ ⟨#[]⟩ 1 none []) = true := by decide
theorem zz_10 : goodWord (Cond.methodLink "a" 1 ⟨"a", "b", "c"⟩) = true := by decide
theorem zz_11 : goodWord (Cond.sameMethod "a" "b" "c" "d") = true := by decide
theorem zz_12 : goodWord (Cond.classLink "a" 1 "b") = true := by decide
theorem zz_13 : goodWord (Cond.stringRef "a" 1 "b") = true := by decide
