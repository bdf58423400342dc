theorem wide_0 : True := have _ := @Jvm.Free.Multi.fill_old; True.intro
