section CJR4
variable {E rn : Nat} {n ed co : Nat → Nat} {hz : Nat → Int64} {con : Nat → Nat → Int32} {ow : Nat → Nat → Int64} {con2 : Nat → Int32} {ow2 : Nat → Nat} {ge : Nat → Bool}
theorem f_least_eq (I : cj_I E rn n ed co hz con ow con2 ow2 ge) {x : Int32} : f_leastC E rn ed co hz x = f_leastM E rn ed co hz x := sorry
theorem c_least_eq (I : cj_I E rn n ed co hz con ow con2 ow2 ge) {ch x : Int32} : c_leastC E rn ed co hz ch x = c_leastM E rn ed co hz ch x := sorry
end CJR4
