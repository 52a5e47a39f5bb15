section XF0
/-! the format of a double is good: with this row every round is read over the whole library, as the hand-in is -/
theorem fp_good : FP.Core.Good FP.Core.b64 := FP.Core.good_b64
end XF0
