def sgM0 : Sg := fun _ _ => 0
