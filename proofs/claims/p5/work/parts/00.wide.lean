/-! the whole library from the first part on: two of its names that the short one has not -/
theorem wide_0 : True := (fun _ _ => trivial) @Jvm.Stand.thenCaughtThrough @Jvm.Stand.ldcStringW
