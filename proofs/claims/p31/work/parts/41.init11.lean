def sgC0 : Sg := fun k => match k with
  | 3 => fun j => match j with | 1 => -1 | _ => 0
  | 4 => fun j => match j with | 2 => -1 | 3 => -1 | 4 => -1 | _ => 0
  | 7 => fun j => match j with | 1 => -1 | _ => 0
  | 10 => fun j => match j with | 1 => -1 | _ => 0
  | 99 => fun j => match j with | 63 => 1 | 64 => 1 | 65 => 1 | 66 => 1 | _ => 0
  | _ => fun _ => 0
