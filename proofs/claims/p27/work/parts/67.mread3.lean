section Ms3
variable {I : mj_I}
abbrev RT (I : mj_I) (L : Nat) : Option mj_V → mj_M → Prop := mj_px (fun r I' => r = none ∧ MB I I' ∧ RDS (I 316) L (I' 313 13) (I' 313 14) (I' 313 15) (I' 313 16) (I' 313 17))
end Ms3
