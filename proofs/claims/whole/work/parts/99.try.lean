theorem zz_try : (1:Nat) = 1 := rfl
theorem zz_bad (l : Launch) (D : va_G) (tc : Nat → ClassId) (S : HS) : CM l D tc yX6_isUpdate cX6_isUpdate 1 (some .boolean) 0 0 0 [] S (fun v S' => False) := by
  have h := @V.callV
  exact h
