-- names a law of the wide library, so that the first light round on a new machine goes over it at once
theorem zwide : Jvm.FP.Core.Good Jvm.FP.Core.b32 := Jvm.FP.Core.good_b32
