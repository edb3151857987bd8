/-! names a thing of the rest of the library, so that the round is read over the whole of it from its first part on (else parts 01 to 33 are compiled twice) -/
theorem hz_wide : True := (fun _ => trivial) @Jvm.Free.Multi.fill_old
theorem hz_wide2 : True := (fun _ => trivial) @Jvm.Free.Multi.innerC
