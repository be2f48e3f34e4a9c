theorem Wcin : Cond.initialized "java/lang/System" ∈ pv_T := wd138
