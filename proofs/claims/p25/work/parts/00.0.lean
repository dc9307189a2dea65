theorem zwide : True := (fun _ => True.intro) (@Stand.thenCaughtThrough)
