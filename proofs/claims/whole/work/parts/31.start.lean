def u_0 : Mm := (0, fun _ _ => 0, fun _ _ => 0, fun _ _ => none)
