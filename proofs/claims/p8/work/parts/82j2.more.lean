section SBM
variable {b : tTx} {n nr : Nat} {nt : Nat → Nat} {cl : Nat → Int} {kd : Int} {t : Nat}
theorem sBM_1 (e : kd = 1) : sBodyM b n nr nt cl kd t = sSel b n nr nt cl t := by subst e; rfl
theorem sBM_2 (e : kd = 2) : sBodyM b n nr nt cl kd t = sPrj b n nr nt cl t := by subst e; rfl
theorem sBM_3 (e : kd = 3) : sBodyM b n nr nt cl kd t = sJoiM b n nr nt cl t := by subst e; rfl
theorem sBM_4 (e : kd = 4) : sBodyM b n nr nt cl kd t = sTwo b n nr nt cl t := by subst e; rfl
theorem sBM_5 (e : kd = 5) : sBodyM b n nr nt cl kd t = sTwo b n nr nt cl t := by subst e; rfl
theorem sBM_6 (e : kd = 6) : sBodyM b n nr nt cl kd t = sRl b n nr nt cl t := by subst e; rfl
theorem sBM_7 (e : kd = 7) : sBodyM b n nr nt cl kd t = sGrp b n nr nt cl t := by subst e; rfl
theorem sBM_8 (e : kd = 8) : sBodyM b n nr nt cl kd t = sRngM b n nr nt cl t := by subst e; rfl
end SBM
