/-! what an object's first constructor is -/
section OINIT
theorem oi_2 : Cond.instanceMethod objectInit ∈ gws := gi1 28 (by decide +kernel) (by decide +kernel)
theorem oi_3 : Cond.code objectInit ⟨#[0xb1]⟩ 1 none ∈ gws := gi1 29 (by decide +kernel) (by decide +kernel)
end OINIT
