/-! floats: this part names the library's laws of floats, so that every part is read over the whole library -/
theorem fl_good : Jvm.FP.Core.Good Jvm.FP.Core.b32 := Jvm.FP.Core.good_b32
