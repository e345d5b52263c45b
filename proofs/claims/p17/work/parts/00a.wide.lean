theorem zz_wide : True := by
  have _h := @Stand.multianewarray2F
  exact True.intro
