theorem wide_0 : True := by have h := @FP.Core.fdiv_out; trivial
