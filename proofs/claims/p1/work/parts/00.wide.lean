/-- a name of the library's rest, asked for at once: on a new machine the rounds are read over the whole library from the first part on (else parts 01 to 21 compile twice) -/
abbrev q_wide := @Jvm.Free.Multi.outerC
