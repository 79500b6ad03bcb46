def gM0L : List (Nat → Int32) := [fun i => if i = 13 then (-1 : Int32) else 0, fun _ => 0, fun _ => 0, fun _ => 0, fun _ => 0, fun _ => 0, fun _ => 0, fun _ => 0, fun _ => 0, fun _ => 0, fun _ => 0, fun _ => 0, fun _ => 0, fun _ => 0, fun _ => 0, fun _ => 0, fun _ => 0, fun _ => 0, fun _ => 0, fun _ => 0, fun _ => 0, fun _ => 0, fun _ => 0, fun _ => 0, fun _ => 0, fun i => if i = 5 then (-1 : Int32) else 0, fun _ => 0, fun _ => 0, fun _ => 0, fun _ => 0, fun _ => 0, fun _ => 0, fun _ => 0, fun _ => 0, fun _ => 0, fun _ => 0, fun _ => 0, fun _ => 0, fun _ => 0, fun _ => 0, fun _ => 0, fun _ => 0, fun _ => 0, fun _ => 0, fun _ => 0, fun _ => 0, fun _ => 0, fun _ => 0, fun _ => 0, fun _ => 0, fun _ => 0, fun _ => 0, fun _ => 0, fun _ => 0, fun _ => 0, fun _ => 0, fun _ => 0, fun _ => 0, fun _ => 0, fun _ => 0, fun _ => 0, fun _ => 0, fun _ => 0, fun _ => 0, fun _ => 0, fun _ => 0, fun _ => 0, fun _ => 0, fun _ => 0, fun _ => 0, fun _ => 0, fun _ => 0, fun _ => 0, fun _ => 0, fun _ => 0, fun _ => 0, fun _ => 0, fun _ => 0, fun _ => 0, fun _ => 0, fun _ => 0, fun _ => 0, fun _ => 0, fun _ => 0, fun _ => 0, fun _ => 0, fun _ => 0, fun _ => 0, fun _ => 0, fun _ => 0, fun _ => 0, fun _ => 0, fun _ => 0, fun _ => 0, fun _ => 0, fun i => if i = 19 then (-1 : Int32) else 0, fun _ => 0, fun _ => 0, fun _ => 0, fun _ => 0, fun _ => 0, fun _ => 0, fun _ => 0, fun _ => 0, fun _ => 0, fun _ => 0, fun _ => 0, fun _ => 0, fun _ => 0, fun _ => 0, fun _ => 0, fun _ => 0, fun _ => 0, fun _ => 0, fun _ => 0, fun _ => 0, fun _ => 0, fun _ => 0, fun _ => 0, fun _ => 0]
/-- the memory at the law's start -/
def gM0 : gM := fun k => gM0L.getD k (fun _ => 0)
abbrev sX8 : Type := ((Nat → Nat) × (Nat → Nat) × (Nat → Nat) × (Nat → Nat) × (Nat → Nat) × (Nat → Nat) × (Nat → Nat) × (Nat → Nat) × (Nat → Nat) × ((Nat → Nat) × (Nat → Nat) × (Nat → Nat) × (Nat → Nat)) × (Nat → Nat) × (Nat → Nat))
def gAdL (x0 m0 : Nat) (u : sX8) (v : Nat → Nat) : List Nat := [x0, (u.1) 0, (u.2.1) 0, (u.1) 1, (u.2.2.1) 0, (u.2.2.1) 1, (u.2.2.1) 2, (u.2.2.1) 3, (u.2.2.1) 4, (u.2.2.1) 5, (u.2.2.1) 6, (u.2.2.1) 7, (u.2.2.1) 8, (u.2.2.1) 9, (u.1) 2, (u.2.2.2.1) 0, (u.2.2.2.1) 1, (u.2.2.2.1) 2, (u.2.2.2.1) 3, (u.2.2.2.1) 4, (u.2.2.2.1) 5, (u.2.2.2.1) 6, (u.2.2.2.1) 7, (u.2.2.2.1) 8, (u.2.2.2.1) 9, (u.1) 3, (u.1) 4, (u.2.2.2.2.2.1) 0, (u.2.2.2.2.2.1) 1, (u.2.2.2.2.2.1) 2, (u.1) 5, (u.2.2.2.2.2.2.1) 0, (u.2.2.2.2.2.2.1) 1, (u.2.2.2.2.2.2.1) 2, (u.1) 6, (u.2.2.2.2.2.2.2.1) 0, (u.2.2.2.2.2.2.2.1) 1, (u.2.2.2.2.2.2.2.1) 2, (u.1) 7, (u.1) 8, (u.2.2.2.2.2.2.2.2.1) 0, (u.2.2.2.2.2.2.2.2.1) 1, (u.2.2.2.2.2.2.2.2.1) 2, (u.1) 9, ((u.2.2.2.2.2.2.2.2.2.1).1) 0, ((u.2.2.2.2.2.2.2.2.2.1).1) 1, ((u.2.2.2.2.2.2.2.2.2.1).2.1) 0, ((u.2.2.2.2.2.2.2.2.2.1).2.1) 1, ((u.2.2.2.2.2.2.2.2.2.1).2.1) 2, ((u.2.2.2.2.2.2.2.2.2.1).2.1) 3, ((u.2.2.2.2.2.2.2.2.2.1).2.1) 4, ((u.2.2.2.2.2.2.2.2.2.1).2.1) 5, ((u.2.2.2.2.2.2.2.2.2.1).2.1) 6, ((u.2.2.2.2.2.2.2.2.2.1).2.1) 7, ((u.2.2.2.2.2.2.2.2.2.1).2.1) 8, ((u.2.2.2.2.2.2.2.2.2.1).2.1) 9, ((u.2.2.2.2.2.2.2.2.2.1).2.1) 10, ((u.2.2.2.2.2.2.2.2.2.1).2.1) 11, ((u.2.2.2.2.2.2.2.2.2.1).2.1) 12, ((u.2.2.2.2.2.2.2.2.2.1).1) 2, ((u.2.2.2.2.2.2.2.2.2.1).2.2.1) 0, ((u.2.2.2.2.2.2.2.2.2.1).2.2.1) 1, ((u.2.2.2.2.2.2.2.2.2.1).2.2.1) 2, ((u.2.2.2.2.2.2.2.2.2.1).2.2.1) 3, ((u.2.2.2.2.2.2.2.2.2.1).2.2.1) 4, ((u.2.2.2.2.2.2.2.2.2.1).2.2.1) 5, ((u.2.2.2.2.2.2.2.2.2.1).2.2.1) 6, ((u.2.2.2.2.2.2.2.2.2.1).2.2.1) 7, ((u.2.2.2.2.2.2.2.2.2.1).2.2.1) 8, ((u.2.2.2.2.2.2.2.2.2.1).2.2.1) 9, ((u.2.2.2.2.2.2.2.2.2.1).2.2.1) 10, ((u.2.2.2.2.2.2.2.2.2.1).2.2.1) 11, ((u.2.2.2.2.2.2.2.2.2.1).2.2.1) 12, ((u.2.2.2.2.2.2.2.2.2.1).1) 3, ((u.2.2.2.2.2.2.2.2.2.1).2.2.2) 0, ((u.2.2.2.2.2.2.2.2.2.1).2.2.2) 1, ((u.2.2.2.2.2.2.2.2.2.1).2.2.2) 2, ((u.2.2.2.2.2.2.2.2.2.1).2.2.2) 3, ((u.2.2.2.2.2.2.2.2.2.1).2.2.2) 4, ((u.2.2.2.2.2.2.2.2.2.1).2.2.2) 5, ((u.2.2.2.2.2.2.2.2.2.1).2.2.2) 6, ((u.2.2.2.2.2.2.2.2.2.1).2.2.2) 7, ((u.2.2.2.2.2.2.2.2.2.1).2.2.2) 8, ((u.2.2.2.2.2.2.2.2.2.1).2.2.2) 9, ((u.2.2.2.2.2.2.2.2.2.1).2.2.2) 10, ((u.2.2.2.2.2.2.2.2.2.1).2.2.2) 11, ((u.2.2.2.2.2.2.2.2.2.1).1) 4, ((u.2.2.2.2.2.2.2.2.2.1).1) 5, (u.1) 10, (u.2.2.2.2.2.2.2.2.2.2.1) 0, (u.2.2.2.2.2.2.2.2.2.2.1) 1, (u.1) 11, (u.2.2.2.2.2.2.2.2.2.2.2) 0, (u.2.2.2.2.2.2.2.2.2.2.2) 1, (u.1) 12, m0, v 0, v 1, v 2, v 3, v 4, v 5, v 6, v 7, v 8, v 9, v 10, v 11, v 12, v 13, v 14, v 15, v 16, v 17, v 18, v 19, v 20, v 21, v 22, v 23]
def gAd (x0 m0 : Nat) (u : sX8) (v : Nat → Nat) : Nat → Nat := fun k => (gAdL x0 m0 u v).getD k 0
def gWL (CS : ClassId × ClassId × ClassId) (x0 m0 : Nat) (u : sX8) (v : Nat → Nat) : va_W := ((x0, .inr (8, kf_X8 u)) :: kl_X8 CS u) ++ ((m0, .inr (9, kf_X9 v)) :: kl_X9 CS v)
def gWF (CS : ClassId × ClassId × ClassId) (x0 m0 : Nat) (u : sX8) (v : Nat → Nat) : va_W := [(x0, .inr (8, [.ref ((u.1) 0), .ref ((u.1) 3), .ref ((u.1) 1), .ref ((u.1) 2), .ref ((u.1) 4), .ref ((u.1) 5), .ref ((u.1) 6), .ref ((u.1) 7), .ref ((u.1) 8), .ref ((u.1) 9), .ref ((u.1) 10), .ref ((u.1) 11), .ref ((u.1) 12), .int (-1 : Int32)])), ((u.1) 0, .inr (6, [.ref ((u.2.1) 0), .int 0])), ((u.2.1) 0, .inl (CS.1, 400, .inl fun _ => 0)), ((u.1) 1, .inr (7, [.ref ((u.2.2.1) 0), .ref ((u.2.2.1) 1), .ref ((u.2.2.1) 2), .ref ((u.2.2.1) 3), .ref ((u.2.2.1) 4), .ref ((u.2.2.1) 5), .ref ((u.2.2.1) 6), .ref ((u.2.2.1) 7), .ref ((u.2.2.1) 8), .ref ((u.2.2.1) 9), .int 0, .int 0, .int 0])), ((u.2.2.1) 0, .inl (CS.1, 10, .inl fun _ => 0)), ((u.2.2.1) 1, .inl (CS.1, 10, .inl fun _ => 0)), ((u.2.2.1) 2, .inl (CS.1, 10, .inl fun _ => 0)), ((u.2.2.1) 3, .inl (CS.1, 10, .inl fun _ => 0)), ((u.2.2.1) 4, .inl (CS.1, 10, .inl fun _ => 0)), ((u.2.2.1) 5, .inl (CS.1, 10, .inl fun _ => 0)), ((u.2.2.1) 6, .inl (CS.1, 10, .inl fun _ => 0)), ((u.2.2.1) 7, .inl (CS.1, 8, .inl fun _ => 0)), ((u.2.2.1) 8, .inl (CS.1, 8, .inl fun _ => 0)), ((u.2.2.1) 9, .inl (CS.1, 8, .inl fun _ => 0)), ((u.1) 2, .inr (7, [.ref ((u.2.2.2.1) 0), .ref ((u.2.2.2.1) 1), .ref ((u.2.2.2.1) 2), .ref ((u.2.2.2.1) 3), .ref ((u.2.2.2.1) 4), .ref ((u.2.2.2.1) 5), .ref ((u.2.2.2.1) 6), .ref ((u.2.2.2.1) 7), .ref ((u.2.2.2.1) 8), .ref ((u.2.2.2.1) 9), .int 0, .int 0, .int 0])), ((u.2.2.2.1) 0, .inl (CS.1, 10, .inl fun _ => 0)), ((u.2.2.2.1) 1, .inl (CS.1, 10, .inl fun _ => 0)), ((u.2.2.2.1) 2, .inl (CS.1, 10, .inl fun _ => 0)), ((u.2.2.2.1) 3, .inl (CS.1, 10, .inl fun _ => 0)), ((u.2.2.2.1) 4, .inl (CS.1, 10, .inl fun _ => 0)), ((u.2.2.2.1) 5, .inl (CS.1, 10, .inl fun _ => 0)), ((u.2.2.2.1) 6, .inl (CS.1, 10, .inl fun _ => 0)), ((u.2.2.2.1) 7, .inl (CS.1, 8, .inl fun _ => 0)), ((u.2.2.2.1) 8, .inl (CS.1, 8, .inl fun _ => 0)), ((u.2.2.2.1) 9, .inl (CS.1, 8, .inl fun _ => 0)), ((u.1) 3, .inr (3, [.ref ((u.1) 0), .ref ((u.1) 2), .int 0, .int 0, .int 0, .int (-1 : Int32)])), ((u.1) 4, .inr (5, [.ref ((u.2.2.2.2.2.1) 0), .ref ((u.2.2.2.2.2.1) 1), .ref ((u.2.2.2.2.2.1) 2), .int 0, .int 0, .int 0, .int 0])), ((u.2.2.2.2.2.1) 0, .inl (CS.1, 10, .inl fun _ => 0)), ((u.2.2.2.2.2.1) 1, .inl (CS.1, 10, .inl fun _ => 0)), ((u.2.2.2.2.2.1) 2, .inl (CS.1, 10, .inl fun _ => 0)), ((u.1) 5, .inr (5, [.ref ((u.2.2.2.2.2.2.1) 0), .ref ((u.2.2.2.2.2.2.1) 1), .ref ((u.2.2.2.2.2.2.1) 2), .int 0, .int 0, .int 0, .int 0])), ((u.2.2.2.2.2.2.1) 0, .inl (CS.1, 10, .inl fun _ => 0)), ((u.2.2.2.2.2.2.1) 1, .inl (CS.1, 10, .inl fun _ => 0)), ((u.2.2.2.2.2.2.1) 2, .inl (CS.1, 10, .inl fun _ => 0)), ((u.1) 6, .inr (5, [.ref ((u.2.2.2.2.2.2.2.1) 0), .ref ((u.2.2.2.2.2.2.2.1) 1), .ref ((u.2.2.2.2.2.2.2.1) 2), .int 0, .int 0, .int 0, .int 0])), ((u.2.2.2.2.2.2.2.1) 0, .inl (CS.1, 10, .inl fun _ => 0)), ((u.2.2.2.2.2.2.2.1) 1, .inl (CS.1, 10, .inl fun _ => 0)), ((u.2.2.2.2.2.2.2.1) 2, .inl (CS.1, 10, .inl fun _ => 0)), ((u.1) 7, .inl (CS.2.1, 2, .inl fun _ => 0)), ((u.1) 8, .inr (2, [.ref ((u.1) 1), .ref ((u.1) 4), .ref ((u.2.2.2.2.2.2.2.2.1) 0), .ref ((u.2.2.2.2.2.2.2.2.1) 1), .ref ((u.2.2.2.2.2.2.2.2.1) 2), .int 0])), ((u.2.2.2.2.2.2.2.2.1) 0, .inl (CS.1, 36, .inl fun _ => 0)), ((u.2.2.2.2.2.2.2.2.1) 1, .inl (CS.1, 36, .inl fun _ => 0)), ((u.2.2.2.2.2.2.2.2.1) 2, .inl (CS.1, 36, .inl fun _ => 0)), ((u.1) 9, .inr (1, [.ref ((u.1) 1), .ref ((u.1) 8), .ref (((u.2.2.2.2.2.2.2.2.2.1).1) 0), .ref (((u.2.2.2.2.2.2.2.2.2.1).1) 1), .ref (((u.2.2.2.2.2.2.2.2.2.1).1) 2), .ref (((u.2.2.2.2.2.2.2.2.2.1).1) 3), .ref (((u.2.2.2.2.2.2.2.2.2.1).1) 4), .ref (((u.2.2.2.2.2.2.2.2.2.1).1) 5), .int 0])), (((u.2.2.2.2.2.2.2.2.2.1).1) 0, .inl (CS.1, 13, .inl fun _ => 0)), (((u.2.2.2.2.2.2.2.2.2.1).1) 1, .inl (CS.2.2, 13, .inr (.inr (.inr (.inr (fun i => if i < 13 then some (((u.2.2.2.2.2.2.2.2.2.1).2.1) i) else none)))))), (((u.2.2.2.2.2.2.2.2.2.1).2.1) 0, .inl (CS.1, 64, .inl fun _ => 0)), (((u.2.2.2.2.2.2.2.2.2.1).2.1) 1, .inl (CS.1, 64, .inl fun _ => 0)), (((u.2.2.2.2.2.2.2.2.2.1).2.1) 2, .inl (CS.1, 64, .inl fun _ => 0)), (((u.2.2.2.2.2.2.2.2.2.1).2.1) 3, .inl (CS.1, 64, .inl fun _ => 0)), (((u.2.2.2.2.2.2.2.2.2.1).2.1) 4, .inl (CS.1, 64, .inl fun _ => 0)), (((u.2.2.2.2.2.2.2.2.2.1).2.1) 5, .inl (CS.1, 64, .inl fun _ => 0)), (((u.2.2.2.2.2.2.2.2.2.1).2.1) 6, .inl (CS.1, 64, .inl fun _ => 0)), (((u.2.2.2.2.2.2.2.2.2.1).2.1) 7, .inl (CS.1, 64, .inl fun _ => 0)), (((u.2.2.2.2.2.2.2.2.2.1).2.1) 8, .inl (CS.1, 64, .inl fun _ => 0)), (((u.2.2.2.2.2.2.2.2.2.1).2.1) 9, .inl (CS.1, 64, .inl fun _ => 0)), (((u.2.2.2.2.2.2.2.2.2.1).2.1) 10, .inl (CS.1, 64, .inl fun _ => 0)), (((u.2.2.2.2.2.2.2.2.2.1).2.1) 11, .inl (CS.1, 64, .inl fun _ => 0)), (((u.2.2.2.2.2.2.2.2.2.1).2.1) 12, .inl (CS.1, 64, .inl fun _ => 0)), (((u.2.2.2.2.2.2.2.2.2.1).1) 2, .inl (CS.2.2, 13, .inr (.inr (.inr (.inr (fun i => if i < 13 then some (((u.2.2.2.2.2.2.2.2.2.1).2.2.1) i) else none)))))), (((u.2.2.2.2.2.2.2.2.2.1).2.2.1) 0, .inl (CS.1, 64, .inl fun _ => 0)), (((u.2.2.2.2.2.2.2.2.2.1).2.2.1) 1, .inl (CS.1, 64, .inl fun _ => 0)), (((u.2.2.2.2.2.2.2.2.2.1).2.2.1) 2, .inl (CS.1, 64, .inl fun _ => 0)), (((u.2.2.2.2.2.2.2.2.2.1).2.2.1) 3, .inl (CS.1, 64, .inl fun _ => 0)), (((u.2.2.2.2.2.2.2.2.2.1).2.2.1) 4, .inl (CS.1, 64, .inl fun _ => 0)), (((u.2.2.2.2.2.2.2.2.2.1).2.2.1) 5, .inl (CS.1, 64, .inl fun _ => 0)), (((u.2.2.2.2.2.2.2.2.2.1).2.2.1) 6, .inl (CS.1, 64, .inl fun _ => 0)), (((u.2.2.2.2.2.2.2.2.2.1).2.2.1) 7, .inl (CS.1, 64, .inl fun _ => 0)), (((u.2.2.2.2.2.2.2.2.2.1).2.2.1) 8, .inl (CS.1, 64, .inl fun _ => 0)), (((u.2.2.2.2.2.2.2.2.2.1).2.2.1) 9, .inl (CS.1, 64, .inl fun _ => 0)), (((u.2.2.2.2.2.2.2.2.2.1).2.2.1) 10, .inl (CS.1, 64, .inl fun _ => 0)), (((u.2.2.2.2.2.2.2.2.2.1).2.2.1) 11, .inl (CS.1, 64, .inl fun _ => 0)), (((u.2.2.2.2.2.2.2.2.2.1).2.2.1) 12, .inl (CS.1, 64, .inl fun _ => 0)), (((u.2.2.2.2.2.2.2.2.2.1).1) 3, .inl (CS.2.2, 12, .inr (.inr (.inr (.inr (fun i => if i < 12 then some (((u.2.2.2.2.2.2.2.2.2.1).2.2.2) i) else none)))))), (((u.2.2.2.2.2.2.2.2.2.1).2.2.2) 0, .inl (CS.1, 64, .inl fun _ => 0)), (((u.2.2.2.2.2.2.2.2.2.1).2.2.2) 1, .inl (CS.1, 64, .inl fun _ => 0)), (((u.2.2.2.2.2.2.2.2.2.1).2.2.2) 2, .inl (CS.1, 64, .inl fun _ => 0)), (((u.2.2.2.2.2.2.2.2.2.1).2.2.2) 3, .inl (CS.1, 64, .inl fun _ => 0)), (((u.2.2.2.2.2.2.2.2.2.1).2.2.2) 4, .inl (CS.1, 64, .inl fun _ => 0)), (((u.2.2.2.2.2.2.2.2.2.1).2.2.2) 5, .inl (CS.1, 64, .inl fun _ => 0)), (((u.2.2.2.2.2.2.2.2.2.1).2.2.2) 6, .inl (CS.1, 64, .inl fun _ => 0)), (((u.2.2.2.2.2.2.2.2.2.1).2.2.2) 7, .inl (CS.1, 64, .inl fun _ => 0)), (((u.2.2.2.2.2.2.2.2.2.1).2.2.2) 8, .inl (CS.1, 64, .inl fun _ => 0)), (((u.2.2.2.2.2.2.2.2.2.1).2.2.2) 9, .inl (CS.1, 64, .inl fun _ => 0)), (((u.2.2.2.2.2.2.2.2.2.1).2.2.2) 10, .inl (CS.1, 64, .inl fun _ => 0)), (((u.2.2.2.2.2.2.2.2.2.1).2.2.2) 11, .inl (CS.1, 64, .inl fun _ => 0)), (((u.2.2.2.2.2.2.2.2.2.1).1) 4, .inl (CS.1, 12, .inl fun _ => 0)), (((u.2.2.2.2.2.2.2.2.2.1).1) 5, .inl (CS.1, 8, .inl fun _ => 0)), ((u.1) 10, .inr (4, [.ref ((u.1) 1), .ref ((u.1) 8), .ref ((u.2.2.2.2.2.2.2.2.2.2.1) 0), .ref ((u.2.2.2.2.2.2.2.2.2.2.1) 1), .int 0])), ((u.2.2.2.2.2.2.2.2.2.2.1) 0, .inl (CS.1, 20, .inl fun _ => 0)), ((u.2.2.2.2.2.2.2.2.2.2.1) 1, .inl (CS.1, 20, .inl fun _ => 0)), ((u.1) 11, .inr (0, [.ref ((u.1) 1), .ref ((u.2.2.2.2.2.2.2.2.2.2.2) 0), .ref ((u.2.2.2.2.2.2.2.2.2.2.2) 1), .int 0])), ((u.2.2.2.2.2.2.2.2.2.2.2) 0, .inl (CS.1, 40, .inl fun _ => 0)), ((u.2.2.2.2.2.2.2.2.2.2.2) 1, .inl (CS.1, 40, .inl fun _ => 0)), ((u.1) 12, .inl (CS.1, 10, .inl fun _ => 0)), (m0, .inr (9, [.ref (v 0), .ref (v 1), .ref (v 2), .ref (v 3), .ref (v 4), .ref (v 5), .ref (v 6), .ref (v 7), .ref (v 8), .ref (v 9), .ref (v 10), .ref (v 11), .ref (v 12), .ref (v 13), .int 0, .int 0, .int 0, .int 0, .int 0, .int (-1 : Int32), .ref (v 14), .int 0, .int 0, .ref (v 15), .ref (v 16), .ref (v 17), .ref (v 18), .ref (v 19), .ref (v 20), .ref (v 21), .int 0, .ref (v 22), .ref (v 23), .int 0])), (v 0, .inl (CS.1, 160, .inl fun _ => 0)), (v 1, .inl (CS.2.1, 2, .inl fun _ => 0)), (v 2, .inl (CS.1, 20, .inl fun _ => 0)), (v 3, .inl (CS.1, 20, .inl fun _ => 0)), (v 4, .inl (CS.1, 20, .inl fun _ => 0)), (v 5, .inl (CS.1, 20, .inl fun _ => 0)), (v 6, .inl (CS.1, 20, .inl fun _ => 0)), (v 7, .inl (CS.1, 20, .inl fun _ => 0)), (v 8, .inl (CS.1, 20, .inl fun _ => 0)), (v 9, .inl (CS.1, 16, .inl fun _ => 0)), (v 10, .inl (CS.1, 16, .inl fun _ => 0)), (v 11, .inl (CS.1, 16, .inl fun _ => 0)), (v 12, .inl (CS.1, 8, .inl fun _ => 0)), (v 13, .inl (CS.1, 400, .inl fun _ => 0)), (v 14, .inl (CS.1, 64, .inl fun _ => 0)), (v 15, .inl (CS.2.1, 12288, .inl fun _ => 0)), (v 16, .inl (CS.1, 13312, .inl fun _ => 0)), (v 17, .inl (CS.2.1, 1024, .inl fun _ => 0)), (v 18, .inl (CS.2.1, 1024, .inl fun _ => 0)), (v 19, .inl (CS.1, 12, .inl fun _ => 0)), (v 20, .inl (CS.1, 20, .inl fun _ => 0)), (v 21, .inl (CS.1, 20, .inl fun _ => 0)), (v 22, .inl (CS.1, 40, .inl fun _ => 0)), (v 23, .inl (CS.1, 40, .inl fun _ => 0))]
set_option maxRecDepth 100000 in
set_option maxHeartbeats 4000000 in
theorem gWL_flat (CS : ClassId × ClassId × ClassId) (x0 m0 : Nat) (u : sX8) (v : Nat → Nat) : gWL CS x0 m0 u v = gWF CS x0 m0 u v := by
  have e13 : List.range 13 = [0, 1, 2, 3, 4, 5, 6, 7, 8, 9, 10, 11, 12] := rfl
  have e12 : List.range 12 = [0, 1, 2, 3, 4, 5, 6, 7, 8, 9, 10, 11] := rfl
  unfold gWL kl_X8 kl_X6 kl_X7 kl_X3 kl_X5 kl_X2 kl_X1 kl_X4 kl_X0 kl_X9
  simp only [e13, e12, List.map_cons, List.map_nil, List.nil_append, List.cons_append, List.append_assoc, List.append_nil]
  rfl
theorem g_outer {D : va_G} {a n : Nat} {cA : ClassId} {f g : Nat → Option Nat} {H : Heap} (h : va_at D vwCl (a, .inl (cA, n, .inr (.inr (.inr (.inr f))))) H) (e : ∀ i, i < n → f i = g i) : va_at D vwCl (a, .inl (cA, n, .inr (.inr (.inr (.inr g))))) H := by
  have h1 : H[a]? = some (vp_cell cA (n, .inr (.inr (.inr (.inr f))))) := h
  have h2 : vp_cell cA (n, .inr (.inr (.inr (.inr f)))) = vp_cell cA (n, .inr (.inr (.inr (.inr g)))) := by
    rw [vp_cell_q, vp_cell_q]
    unfold arrV
    congr 1
    apply Array.ext
    · simp
    · intro i h1 h2
      simp at h1
      simp [e i h1]
  exact h1.trans (congrArg some h2)
set_option maxRecDepth 100000 in
theorem gat_0 {D : va_G} {CS : ClassId × ClassId × ClassId} {x0 m0 : Nat} {u : sX8} {v : Nat → Nat} {H : Heap} (hP : va_P D vwCl (gWF CS x0 m0 u v) H) : va_at D vwCl (gAd x0 m0 u v 0, gcell (gAd x0 m0 u v) CS (kd 0) (rf 0) (gM0 0)) H := hP 0 _ rfl
set_option maxRecDepth 100000 in
theorem gat_1 {D : va_G} {CS : ClassId × ClassId × ClassId} {x0 m0 : Nat} {u : sX8} {v : Nat → Nat} {H : Heap} (hP : va_P D vwCl (gWF CS x0 m0 u v) H) : va_at D vwCl (gAd x0 m0 u v 1, gcell (gAd x0 m0 u v) CS (kd 1) (rf 1) (gM0 1)) H := hP 1 _ rfl
set_option maxRecDepth 100000 in
theorem gat_2 {D : va_G} {CS : ClassId × ClassId × ClassId} {x0 m0 : Nat} {u : sX8} {v : Nat → Nat} {H : Heap} (hP : va_P D vwCl (gWF CS x0 m0 u v) H) : va_at D vwCl (gAd x0 m0 u v 2, gcell (gAd x0 m0 u v) CS (kd 2) (rf 2) (gM0 2)) H := hP 2 _ rfl
set_option maxRecDepth 100000 in
theorem gat_3 {D : va_G} {CS : ClassId × ClassId × ClassId} {x0 m0 : Nat} {u : sX8} {v : Nat → Nat} {H : Heap} (hP : va_P D vwCl (gWF CS x0 m0 u v) H) : va_at D vwCl (gAd x0 m0 u v 3, gcell (gAd x0 m0 u v) CS (kd 3) (rf 3) (gM0 3)) H := hP 3 _ rfl
set_option maxRecDepth 100000 in
theorem gat_4 {D : va_G} {CS : ClassId × ClassId × ClassId} {x0 m0 : Nat} {u : sX8} {v : Nat → Nat} {H : Heap} (hP : va_P D vwCl (gWF CS x0 m0 u v) H) : va_at D vwCl (gAd x0 m0 u v 4, gcell (gAd x0 m0 u v) CS (kd 4) (rf 4) (gM0 4)) H := hP 4 _ rfl
set_option maxRecDepth 100000 in
theorem gat_5 {D : va_G} {CS : ClassId × ClassId × ClassId} {x0 m0 : Nat} {u : sX8} {v : Nat → Nat} {H : Heap} (hP : va_P D vwCl (gWF CS x0 m0 u v) H) : va_at D vwCl (gAd x0 m0 u v 5, gcell (gAd x0 m0 u v) CS (kd 5) (rf 5) (gM0 5)) H := hP 5 _ rfl
set_option maxRecDepth 100000 in
theorem gat_6 {D : va_G} {CS : ClassId × ClassId × ClassId} {x0 m0 : Nat} {u : sX8} {v : Nat → Nat} {H : Heap} (hP : va_P D vwCl (gWF CS x0 m0 u v) H) : va_at D vwCl (gAd x0 m0 u v 6, gcell (gAd x0 m0 u v) CS (kd 6) (rf 6) (gM0 6)) H := hP 6 _ rfl
set_option maxRecDepth 100000 in
theorem gat_7 {D : va_G} {CS : ClassId × ClassId × ClassId} {x0 m0 : Nat} {u : sX8} {v : Nat → Nat} {H : Heap} (hP : va_P D vwCl (gWF CS x0 m0 u v) H) : va_at D vwCl (gAd x0 m0 u v 7, gcell (gAd x0 m0 u v) CS (kd 7) (rf 7) (gM0 7)) H := hP 7 _ rfl
set_option maxRecDepth 100000 in
theorem gat_8 {D : va_G} {CS : ClassId × ClassId × ClassId} {x0 m0 : Nat} {u : sX8} {v : Nat → Nat} {H : Heap} (hP : va_P D vwCl (gWF CS x0 m0 u v) H) : va_at D vwCl (gAd x0 m0 u v 8, gcell (gAd x0 m0 u v) CS (kd 8) (rf 8) (gM0 8)) H := hP 8 _ rfl
set_option maxRecDepth 100000 in
theorem gat_9 {D : va_G} {CS : ClassId × ClassId × ClassId} {x0 m0 : Nat} {u : sX8} {v : Nat → Nat} {H : Heap} (hP : va_P D vwCl (gWF CS x0 m0 u v) H) : va_at D vwCl (gAd x0 m0 u v 9, gcell (gAd x0 m0 u v) CS (kd 9) (rf 9) (gM0 9)) H := hP 9 _ rfl
set_option maxRecDepth 100000 in
theorem gat_10 {D : va_G} {CS : ClassId × ClassId × ClassId} {x0 m0 : Nat} {u : sX8} {v : Nat → Nat} {H : Heap} (hP : va_P D vwCl (gWF CS x0 m0 u v) H) : va_at D vwCl (gAd x0 m0 u v 10, gcell (gAd x0 m0 u v) CS (kd 10) (rf 10) (gM0 10)) H := hP 10 _ rfl
set_option maxRecDepth 100000 in
theorem gat_11 {D : va_G} {CS : ClassId × ClassId × ClassId} {x0 m0 : Nat} {u : sX8} {v : Nat → Nat} {H : Heap} (hP : va_P D vwCl (gWF CS x0 m0 u v) H) : va_at D vwCl (gAd x0 m0 u v 11, gcell (gAd x0 m0 u v) CS (kd 11) (rf 11) (gM0 11)) H := hP 11 _ rfl
set_option maxRecDepth 100000 in
theorem gat_12 {D : va_G} {CS : ClassId × ClassId × ClassId} {x0 m0 : Nat} {u : sX8} {v : Nat → Nat} {H : Heap} (hP : va_P D vwCl (gWF CS x0 m0 u v) H) : va_at D vwCl (gAd x0 m0 u v 12, gcell (gAd x0 m0 u v) CS (kd 12) (rf 12) (gM0 12)) H := hP 12 _ rfl
set_option maxRecDepth 100000 in
theorem gat_13 {D : va_G} {CS : ClassId × ClassId × ClassId} {x0 m0 : Nat} {u : sX8} {v : Nat → Nat} {H : Heap} (hP : va_P D vwCl (gWF CS x0 m0 u v) H) : va_at D vwCl (gAd x0 m0 u v 13, gcell (gAd x0 m0 u v) CS (kd 13) (rf 13) (gM0 13)) H := hP 13 _ rfl
set_option maxRecDepth 100000 in
theorem gat_14 {D : va_G} {CS : ClassId × ClassId × ClassId} {x0 m0 : Nat} {u : sX8} {v : Nat → Nat} {H : Heap} (hP : va_P D vwCl (gWF CS x0 m0 u v) H) : va_at D vwCl (gAd x0 m0 u v 14, gcell (gAd x0 m0 u v) CS (kd 14) (rf 14) (gM0 14)) H := hP 14 _ rfl
set_option maxRecDepth 100000 in
theorem gat_15 {D : va_G} {CS : ClassId × ClassId × ClassId} {x0 m0 : Nat} {u : sX8} {v : Nat → Nat} {H : Heap} (hP : va_P D vwCl (gWF CS x0 m0 u v) H) : va_at D vwCl (gAd x0 m0 u v 15, gcell (gAd x0 m0 u v) CS (kd 15) (rf 15) (gM0 15)) H := hP 15 _ rfl
set_option maxRecDepth 100000 in
theorem gat_16 {D : va_G} {CS : ClassId × ClassId × ClassId} {x0 m0 : Nat} {u : sX8} {v : Nat → Nat} {H : Heap} (hP : va_P D vwCl (gWF CS x0 m0 u v) H) : va_at D vwCl (gAd x0 m0 u v 16, gcell (gAd x0 m0 u v) CS (kd 16) (rf 16) (gM0 16)) H := hP 16 _ rfl
set_option maxRecDepth 100000 in
theorem gat_17 {D : va_G} {CS : ClassId × ClassId × ClassId} {x0 m0 : Nat} {u : sX8} {v : Nat → Nat} {H : Heap} (hP : va_P D vwCl (gWF CS x0 m0 u v) H) : va_at D vwCl (gAd x0 m0 u v 17, gcell (gAd x0 m0 u v) CS (kd 17) (rf 17) (gM0 17)) H := hP 17 _ rfl
set_option maxRecDepth 100000 in
theorem gat_18 {D : va_G} {CS : ClassId × ClassId × ClassId} {x0 m0 : Nat} {u : sX8} {v : Nat → Nat} {H : Heap} (hP : va_P D vwCl (gWF CS x0 m0 u v) H) : va_at D vwCl (gAd x0 m0 u v 18, gcell (gAd x0 m0 u v) CS (kd 18) (rf 18) (gM0 18)) H := hP 18 _ rfl
set_option maxRecDepth 100000 in
theorem gat_19 {D : va_G} {CS : ClassId × ClassId × ClassId} {x0 m0 : Nat} {u : sX8} {v : Nat → Nat} {H : Heap} (hP : va_P D vwCl (gWF CS x0 m0 u v) H) : va_at D vwCl (gAd x0 m0 u v 19, gcell (gAd x0 m0 u v) CS (kd 19) (rf 19) (gM0 19)) H := hP 19 _ rfl
set_option maxRecDepth 100000 in
theorem gat_20 {D : va_G} {CS : ClassId × ClassId × ClassId} {x0 m0 : Nat} {u : sX8} {v : Nat → Nat} {H : Heap} (hP : va_P D vwCl (gWF CS x0 m0 u v) H) : va_at D vwCl (gAd x0 m0 u v 20, gcell (gAd x0 m0 u v) CS (kd 20) (rf 20) (gM0 20)) H := hP 20 _ rfl
set_option maxRecDepth 100000 in
theorem gat_21 {D : va_G} {CS : ClassId × ClassId × ClassId} {x0 m0 : Nat} {u : sX8} {v : Nat → Nat} {H : Heap} (hP : va_P D vwCl (gWF CS x0 m0 u v) H) : va_at D vwCl (gAd x0 m0 u v 21, gcell (gAd x0 m0 u v) CS (kd 21) (rf 21) (gM0 21)) H := hP 21 _ rfl
set_option maxRecDepth 100000 in
theorem gat_22 {D : va_G} {CS : ClassId × ClassId × ClassId} {x0 m0 : Nat} {u : sX8} {v : Nat → Nat} {H : Heap} (hP : va_P D vwCl (gWF CS x0 m0 u v) H) : va_at D vwCl (gAd x0 m0 u v 22, gcell (gAd x0 m0 u v) CS (kd 22) (rf 22) (gM0 22)) H := hP 22 _ rfl
set_option maxRecDepth 100000 in
theorem gat_23 {D : va_G} {CS : ClassId × ClassId × ClassId} {x0 m0 : Nat} {u : sX8} {v : Nat → Nat} {H : Heap} (hP : va_P D vwCl (gWF CS x0 m0 u v) H) : va_at D vwCl (gAd x0 m0 u v 23, gcell (gAd x0 m0 u v) CS (kd 23) (rf 23) (gM0 23)) H := hP 23 _ rfl
set_option maxRecDepth 100000 in
theorem gat_24 {D : va_G} {CS : ClassId × ClassId × ClassId} {x0 m0 : Nat} {u : sX8} {v : Nat → Nat} {H : Heap} (hP : va_P D vwCl (gWF CS x0 m0 u v) H) : va_at D vwCl (gAd x0 m0 u v 24, gcell (gAd x0 m0 u v) CS (kd 24) (rf 24) (gM0 24)) H := hP 24 _ rfl
set_option maxRecDepth 100000 in
theorem gat_25 {D : va_G} {CS : ClassId × ClassId × ClassId} {x0 m0 : Nat} {u : sX8} {v : Nat → Nat} {H : Heap} (hP : va_P D vwCl (gWF CS x0 m0 u v) H) : va_at D vwCl (gAd x0 m0 u v 25, gcell (gAd x0 m0 u v) CS (kd 25) (rf 25) (gM0 25)) H := hP 25 _ rfl
set_option maxRecDepth 100000 in
theorem gat_26 {D : va_G} {CS : ClassId × ClassId × ClassId} {x0 m0 : Nat} {u : sX8} {v : Nat → Nat} {H : Heap} (hP : va_P D vwCl (gWF CS x0 m0 u v) H) : va_at D vwCl (gAd x0 m0 u v 26, gcell (gAd x0 m0 u v) CS (kd 26) (rf 26) (gM0 26)) H := hP 26 _ rfl
set_option maxRecDepth 100000 in
theorem gat_27 {D : va_G} {CS : ClassId × ClassId × ClassId} {x0 m0 : Nat} {u : sX8} {v : Nat → Nat} {H : Heap} (hP : va_P D vwCl (gWF CS x0 m0 u v) H) : va_at D vwCl (gAd x0 m0 u v 27, gcell (gAd x0 m0 u v) CS (kd 27) (rf 27) (gM0 27)) H := hP 27 _ rfl
set_option maxRecDepth 100000 in
theorem gat_28 {D : va_G} {CS : ClassId × ClassId × ClassId} {x0 m0 : Nat} {u : sX8} {v : Nat → Nat} {H : Heap} (hP : va_P D vwCl (gWF CS x0 m0 u v) H) : va_at D vwCl (gAd x0 m0 u v 28, gcell (gAd x0 m0 u v) CS (kd 28) (rf 28) (gM0 28)) H := hP 28 _ rfl
set_option maxRecDepth 100000 in
theorem gat_29 {D : va_G} {CS : ClassId × ClassId × ClassId} {x0 m0 : Nat} {u : sX8} {v : Nat → Nat} {H : Heap} (hP : va_P D vwCl (gWF CS x0 m0 u v) H) : va_at D vwCl (gAd x0 m0 u v 29, gcell (gAd x0 m0 u v) CS (kd 29) (rf 29) (gM0 29)) H := hP 29 _ rfl
set_option maxRecDepth 100000 in
theorem gat_30 {D : va_G} {CS : ClassId × ClassId × ClassId} {x0 m0 : Nat} {u : sX8} {v : Nat → Nat} {H : Heap} (hP : va_P D vwCl (gWF CS x0 m0 u v) H) : va_at D vwCl (gAd x0 m0 u v 30, gcell (gAd x0 m0 u v) CS (kd 30) (rf 30) (gM0 30)) H := hP 30 _ rfl
set_option maxRecDepth 100000 in
theorem gat_31 {D : va_G} {CS : ClassId × ClassId × ClassId} {x0 m0 : Nat} {u : sX8} {v : Nat → Nat} {H : Heap} (hP : va_P D vwCl (gWF CS x0 m0 u v) H) : va_at D vwCl (gAd x0 m0 u v 31, gcell (gAd x0 m0 u v) CS (kd 31) (rf 31) (gM0 31)) H := hP 31 _ rfl
set_option maxRecDepth 100000 in
theorem gat_32 {D : va_G} {CS : ClassId × ClassId × ClassId} {x0 m0 : Nat} {u : sX8} {v : Nat → Nat} {H : Heap} (hP : va_P D vwCl (gWF CS x0 m0 u v) H) : va_at D vwCl (gAd x0 m0 u v 32, gcell (gAd x0 m0 u v) CS (kd 32) (rf 32) (gM0 32)) H := hP 32 _ rfl
set_option maxRecDepth 100000 in
theorem gat_33 {D : va_G} {CS : ClassId × ClassId × ClassId} {x0 m0 : Nat} {u : sX8} {v : Nat → Nat} {H : Heap} (hP : va_P D vwCl (gWF CS x0 m0 u v) H) : va_at D vwCl (gAd x0 m0 u v 33, gcell (gAd x0 m0 u v) CS (kd 33) (rf 33) (gM0 33)) H := hP 33 _ rfl
set_option maxRecDepth 100000 in
theorem gat_34 {D : va_G} {CS : ClassId × ClassId × ClassId} {x0 m0 : Nat} {u : sX8} {v : Nat → Nat} {H : Heap} (hP : va_P D vwCl (gWF CS x0 m0 u v) H) : va_at D vwCl (gAd x0 m0 u v 34, gcell (gAd x0 m0 u v) CS (kd 34) (rf 34) (gM0 34)) H := hP 34 _ rfl
set_option maxRecDepth 100000 in
theorem gat_35 {D : va_G} {CS : ClassId × ClassId × ClassId} {x0 m0 : Nat} {u : sX8} {v : Nat → Nat} {H : Heap} (hP : va_P D vwCl (gWF CS x0 m0 u v) H) : va_at D vwCl (gAd x0 m0 u v 35, gcell (gAd x0 m0 u v) CS (kd 35) (rf 35) (gM0 35)) H := hP 35 _ rfl
set_option maxRecDepth 100000 in
theorem gat_36 {D : va_G} {CS : ClassId × ClassId × ClassId} {x0 m0 : Nat} {u : sX8} {v : Nat → Nat} {H : Heap} (hP : va_P D vwCl (gWF CS x0 m0 u v) H) : va_at D vwCl (gAd x0 m0 u v 36, gcell (gAd x0 m0 u v) CS (kd 36) (rf 36) (gM0 36)) H := hP 36 _ rfl
set_option maxRecDepth 100000 in
theorem gat_37 {D : va_G} {CS : ClassId × ClassId × ClassId} {x0 m0 : Nat} {u : sX8} {v : Nat → Nat} {H : Heap} (hP : va_P D vwCl (gWF CS x0 m0 u v) H) : va_at D vwCl (gAd x0 m0 u v 37, gcell (gAd x0 m0 u v) CS (kd 37) (rf 37) (gM0 37)) H := hP 37 _ rfl
set_option maxRecDepth 100000 in
theorem gat_38 {D : va_G} {CS : ClassId × ClassId × ClassId} {x0 m0 : Nat} {u : sX8} {v : Nat → Nat} {H : Heap} (hP : va_P D vwCl (gWF CS x0 m0 u v) H) : va_at D vwCl (gAd x0 m0 u v 38, gcell (gAd x0 m0 u v) CS (kd 38) (rf 38) (gM0 38)) H := hP 38 _ rfl
set_option maxRecDepth 100000 in
theorem gat_39 {D : va_G} {CS : ClassId × ClassId × ClassId} {x0 m0 : Nat} {u : sX8} {v : Nat → Nat} {H : Heap} (hP : va_P D vwCl (gWF CS x0 m0 u v) H) : va_at D vwCl (gAd x0 m0 u v 39, gcell (gAd x0 m0 u v) CS (kd 39) (rf 39) (gM0 39)) H := hP 39 _ rfl
set_option maxRecDepth 100000 in
theorem gat_40 {D : va_G} {CS : ClassId × ClassId × ClassId} {x0 m0 : Nat} {u : sX8} {v : Nat → Nat} {H : Heap} (hP : va_P D vwCl (gWF CS x0 m0 u v) H) : va_at D vwCl (gAd x0 m0 u v 40, gcell (gAd x0 m0 u v) CS (kd 40) (rf 40) (gM0 40)) H := hP 40 _ rfl
set_option maxRecDepth 100000 in
theorem gat_41 {D : va_G} {CS : ClassId × ClassId × ClassId} {x0 m0 : Nat} {u : sX8} {v : Nat → Nat} {H : Heap} (hP : va_P D vwCl (gWF CS x0 m0 u v) H) : va_at D vwCl (gAd x0 m0 u v 41, gcell (gAd x0 m0 u v) CS (kd 41) (rf 41) (gM0 41)) H := hP 41 _ rfl
set_option maxRecDepth 100000 in
theorem gat_42 {D : va_G} {CS : ClassId × ClassId × ClassId} {x0 m0 : Nat} {u : sX8} {v : Nat → Nat} {H : Heap} (hP : va_P D vwCl (gWF CS x0 m0 u v) H) : va_at D vwCl (gAd x0 m0 u v 42, gcell (gAd x0 m0 u v) CS (kd 42) (rf 42) (gM0 42)) H := hP 42 _ rfl
set_option maxRecDepth 100000 in
theorem gat_43 {D : va_G} {CS : ClassId × ClassId × ClassId} {x0 m0 : Nat} {u : sX8} {v : Nat → Nat} {H : Heap} (hP : va_P D vwCl (gWF CS x0 m0 u v) H) : va_at D vwCl (gAd x0 m0 u v 43, gcell (gAd x0 m0 u v) CS (kd 43) (rf 43) (gM0 43)) H := hP 43 _ rfl
set_option maxRecDepth 100000 in
theorem gat_44 {D : va_G} {CS : ClassId × ClassId × ClassId} {x0 m0 : Nat} {u : sX8} {v : Nat → Nat} {H : Heap} (hP : va_P D vwCl (gWF CS x0 m0 u v) H) : va_at D vwCl (gAd x0 m0 u v 44, gcell (gAd x0 m0 u v) CS (kd 44) (rf 44) (gM0 44)) H := hP 44 _ rfl
set_option maxRecDepth 100000 in
theorem gat_45 {D : va_G} {CS : ClassId × ClassId × ClassId} {x0 m0 : Nat} {u : sX8} {v : Nat → Nat} {H : Heap} (hP : va_P D vwCl (gWF CS x0 m0 u v) H) : va_at D vwCl (gAd x0 m0 u v 45, gcell (gAd x0 m0 u v) CS (kd 45) (rf 45) (gM0 45)) H :=
  g_outer (hP 45 _ rfl) (lt_s (lt_s (lt_s (lt_s (lt_s (lt_s (lt_s (lt_s (lt_s (lt_s (lt_s (lt_s (lt_s (lt_0) rfl) rfl) rfl) rfl) rfl) rfl) rfl) rfl) rfl) rfl) rfl) rfl) rfl)
set_option maxRecDepth 100000 in
theorem gat_46 {D : va_G} {CS : ClassId × ClassId × ClassId} {x0 m0 : Nat} {u : sX8} {v : Nat → Nat} {H : Heap} (hP : va_P D vwCl (gWF CS x0 m0 u v) H) : va_at D vwCl (gAd x0 m0 u v 46, gcell (gAd x0 m0 u v) CS (kd 46) (rf 46) (gM0 46)) H := hP 46 _ rfl
set_option maxRecDepth 100000 in
theorem gat_47 {D : va_G} {CS : ClassId × ClassId × ClassId} {x0 m0 : Nat} {u : sX8} {v : Nat → Nat} {H : Heap} (hP : va_P D vwCl (gWF CS x0 m0 u v) H) : va_at D vwCl (gAd x0 m0 u v 47, gcell (gAd x0 m0 u v) CS (kd 47) (rf 47) (gM0 47)) H := hP 47 _ rfl
set_option maxRecDepth 100000 in
theorem gat_48 {D : va_G} {CS : ClassId × ClassId × ClassId} {x0 m0 : Nat} {u : sX8} {v : Nat → Nat} {H : Heap} (hP : va_P D vwCl (gWF CS x0 m0 u v) H) : va_at D vwCl (gAd x0 m0 u v 48, gcell (gAd x0 m0 u v) CS (kd 48) (rf 48) (gM0 48)) H := hP 48 _ rfl
set_option maxRecDepth 100000 in
theorem gat_49 {D : va_G} {CS : ClassId × ClassId × ClassId} {x0 m0 : Nat} {u : sX8} {v : Nat → Nat} {H : Heap} (hP : va_P D vwCl (gWF CS x0 m0 u v) H) : va_at D vwCl (gAd x0 m0 u v 49, gcell (gAd x0 m0 u v) CS (kd 49) (rf 49) (gM0 49)) H := hP 49 _ rfl
set_option maxRecDepth 100000 in
theorem gat_50 {D : va_G} {CS : ClassId × ClassId × ClassId} {x0 m0 : Nat} {u : sX8} {v : Nat → Nat} {H : Heap} (hP : va_P D vwCl (gWF CS x0 m0 u v) H) : va_at D vwCl (gAd x0 m0 u v 50, gcell (gAd x0 m0 u v) CS (kd 50) (rf 50) (gM0 50)) H := hP 50 _ rfl
set_option maxRecDepth 100000 in
theorem gat_51 {D : va_G} {CS : ClassId × ClassId × ClassId} {x0 m0 : Nat} {u : sX8} {v : Nat → Nat} {H : Heap} (hP : va_P D vwCl (gWF CS x0 m0 u v) H) : va_at D vwCl (gAd x0 m0 u v 51, gcell (gAd x0 m0 u v) CS (kd 51) (rf 51) (gM0 51)) H := hP 51 _ rfl
set_option maxRecDepth 100000 in
theorem gat_52 {D : va_G} {CS : ClassId × ClassId × ClassId} {x0 m0 : Nat} {u : sX8} {v : Nat → Nat} {H : Heap} (hP : va_P D vwCl (gWF CS x0 m0 u v) H) : va_at D vwCl (gAd x0 m0 u v 52, gcell (gAd x0 m0 u v) CS (kd 52) (rf 52) (gM0 52)) H := hP 52 _ rfl
set_option maxRecDepth 100000 in
theorem gat_53 {D : va_G} {CS : ClassId × ClassId × ClassId} {x0 m0 : Nat} {u : sX8} {v : Nat → Nat} {H : Heap} (hP : va_P D vwCl (gWF CS x0 m0 u v) H) : va_at D vwCl (gAd x0 m0 u v 53, gcell (gAd x0 m0 u v) CS (kd 53) (rf 53) (gM0 53)) H := hP 53 _ rfl
set_option maxRecDepth 100000 in
theorem gat_54 {D : va_G} {CS : ClassId × ClassId × ClassId} {x0 m0 : Nat} {u : sX8} {v : Nat → Nat} {H : Heap} (hP : va_P D vwCl (gWF CS x0 m0 u v) H) : va_at D vwCl (gAd x0 m0 u v 54, gcell (gAd x0 m0 u v) CS (kd 54) (rf 54) (gM0 54)) H := hP 54 _ rfl
set_option maxRecDepth 100000 in
theorem gat_55 {D : va_G} {CS : ClassId × ClassId × ClassId} {x0 m0 : Nat} {u : sX8} {v : Nat → Nat} {H : Heap} (hP : va_P D vwCl (gWF CS x0 m0 u v) H) : va_at D vwCl (gAd x0 m0 u v 55, gcell (gAd x0 m0 u v) CS (kd 55) (rf 55) (gM0 55)) H := hP 55 _ rfl
set_option maxRecDepth 100000 in
theorem gat_56 {D : va_G} {CS : ClassId × ClassId × ClassId} {x0 m0 : Nat} {u : sX8} {v : Nat → Nat} {H : Heap} (hP : va_P D vwCl (gWF CS x0 m0 u v) H) : va_at D vwCl (gAd x0 m0 u v 56, gcell (gAd x0 m0 u v) CS (kd 56) (rf 56) (gM0 56)) H := hP 56 _ rfl
set_option maxRecDepth 100000 in
theorem gat_57 {D : va_G} {CS : ClassId × ClassId × ClassId} {x0 m0 : Nat} {u : sX8} {v : Nat → Nat} {H : Heap} (hP : va_P D vwCl (gWF CS x0 m0 u v) H) : va_at D vwCl (gAd x0 m0 u v 57, gcell (gAd x0 m0 u v) CS (kd 57) (rf 57) (gM0 57)) H := hP 57 _ rfl
set_option maxRecDepth 100000 in
theorem gat_58 {D : va_G} {CS : ClassId × ClassId × ClassId} {x0 m0 : Nat} {u : sX8} {v : Nat → Nat} {H : Heap} (hP : va_P D vwCl (gWF CS x0 m0 u v) H) : va_at D vwCl (gAd x0 m0 u v 58, gcell (gAd x0 m0 u v) CS (kd 58) (rf 58) (gM0 58)) H := hP 58 _ rfl
set_option maxRecDepth 100000 in
theorem gat_59 {D : va_G} {CS : ClassId × ClassId × ClassId} {x0 m0 : Nat} {u : sX8} {v : Nat → Nat} {H : Heap} (hP : va_P D vwCl (gWF CS x0 m0 u v) H) : va_at D vwCl (gAd x0 m0 u v 59, gcell (gAd x0 m0 u v) CS (kd 59) (rf 59) (gM0 59)) H :=
  g_outer (hP 59 _ rfl) (lt_s (lt_s (lt_s (lt_s (lt_s (lt_s (lt_s (lt_s (lt_s (lt_s (lt_s (lt_s (lt_s (lt_0) rfl) rfl) rfl) rfl) rfl) rfl) rfl) rfl) rfl) rfl) rfl) rfl) rfl)
set_option maxRecDepth 100000 in
theorem gat_60 {D : va_G} {CS : ClassId × ClassId × ClassId} {x0 m0 : Nat} {u : sX8} {v : Nat → Nat} {H : Heap} (hP : va_P D vwCl (gWF CS x0 m0 u v) H) : va_at D vwCl (gAd x0 m0 u v 60, gcell (gAd x0 m0 u v) CS (kd 60) (rf 60) (gM0 60)) H := hP 60 _ rfl
set_option maxRecDepth 100000 in
theorem gat_61 {D : va_G} {CS : ClassId × ClassId × ClassId} {x0 m0 : Nat} {u : sX8} {v : Nat → Nat} {H : Heap} (hP : va_P D vwCl (gWF CS x0 m0 u v) H) : va_at D vwCl (gAd x0 m0 u v 61, gcell (gAd x0 m0 u v) CS (kd 61) (rf 61) (gM0 61)) H := hP 61 _ rfl
set_option maxRecDepth 100000 in
theorem gat_62 {D : va_G} {CS : ClassId × ClassId × ClassId} {x0 m0 : Nat} {u : sX8} {v : Nat → Nat} {H : Heap} (hP : va_P D vwCl (gWF CS x0 m0 u v) H) : va_at D vwCl (gAd x0 m0 u v 62, gcell (gAd x0 m0 u v) CS (kd 62) (rf 62) (gM0 62)) H := hP 62 _ rfl
set_option maxRecDepth 100000 in
theorem gat_63 {D : va_G} {CS : ClassId × ClassId × ClassId} {x0 m0 : Nat} {u : sX8} {v : Nat → Nat} {H : Heap} (hP : va_P D vwCl (gWF CS x0 m0 u v) H) : va_at D vwCl (gAd x0 m0 u v 63, gcell (gAd x0 m0 u v) CS (kd 63) (rf 63) (gM0 63)) H := hP 63 _ rfl
set_option maxRecDepth 100000 in
theorem gat_64 {D : va_G} {CS : ClassId × ClassId × ClassId} {x0 m0 : Nat} {u : sX8} {v : Nat → Nat} {H : Heap} (hP : va_P D vwCl (gWF CS x0 m0 u v) H) : va_at D vwCl (gAd x0 m0 u v 64, gcell (gAd x0 m0 u v) CS (kd 64) (rf 64) (gM0 64)) H := hP 64 _ rfl
set_option maxRecDepth 100000 in
theorem gat_65 {D : va_G} {CS : ClassId × ClassId × ClassId} {x0 m0 : Nat} {u : sX8} {v : Nat → Nat} {H : Heap} (hP : va_P D vwCl (gWF CS x0 m0 u v) H) : va_at D vwCl (gAd x0 m0 u v 65, gcell (gAd x0 m0 u v) CS (kd 65) (rf 65) (gM0 65)) H := hP 65 _ rfl
set_option maxRecDepth 100000 in
theorem gat_66 {D : va_G} {CS : ClassId × ClassId × ClassId} {x0 m0 : Nat} {u : sX8} {v : Nat → Nat} {H : Heap} (hP : va_P D vwCl (gWF CS x0 m0 u v) H) : va_at D vwCl (gAd x0 m0 u v 66, gcell (gAd x0 m0 u v) CS (kd 66) (rf 66) (gM0 66)) H := hP 66 _ rfl
set_option maxRecDepth 100000 in
theorem gat_67 {D : va_G} {CS : ClassId × ClassId × ClassId} {x0 m0 : Nat} {u : sX8} {v : Nat → Nat} {H : Heap} (hP : va_P D vwCl (gWF CS x0 m0 u v) H) : va_at D vwCl (gAd x0 m0 u v 67, gcell (gAd x0 m0 u v) CS (kd 67) (rf 67) (gM0 67)) H := hP 67 _ rfl
set_option maxRecDepth 100000 in
theorem gat_68 {D : va_G} {CS : ClassId × ClassId × ClassId} {x0 m0 : Nat} {u : sX8} {v : Nat → Nat} {H : Heap} (hP : va_P D vwCl (gWF CS x0 m0 u v) H) : va_at D vwCl (gAd x0 m0 u v 68, gcell (gAd x0 m0 u v) CS (kd 68) (rf 68) (gM0 68)) H := hP 68 _ rfl
set_option maxRecDepth 100000 in
theorem gat_69 {D : va_G} {CS : ClassId × ClassId × ClassId} {x0 m0 : Nat} {u : sX8} {v : Nat → Nat} {H : Heap} (hP : va_P D vwCl (gWF CS x0 m0 u v) H) : va_at D vwCl (gAd x0 m0 u v 69, gcell (gAd x0 m0 u v) CS (kd 69) (rf 69) (gM0 69)) H := hP 69 _ rfl
set_option maxRecDepth 100000 in
theorem gat_70 {D : va_G} {CS : ClassId × ClassId × ClassId} {x0 m0 : Nat} {u : sX8} {v : Nat → Nat} {H : Heap} (hP : va_P D vwCl (gWF CS x0 m0 u v) H) : va_at D vwCl (gAd x0 m0 u v 70, gcell (gAd x0 m0 u v) CS (kd 70) (rf 70) (gM0 70)) H := hP 70 _ rfl
set_option maxRecDepth 100000 in
theorem gat_71 {D : va_G} {CS : ClassId × ClassId × ClassId} {x0 m0 : Nat} {u : sX8} {v : Nat → Nat} {H : Heap} (hP : va_P D vwCl (gWF CS x0 m0 u v) H) : va_at D vwCl (gAd x0 m0 u v 71, gcell (gAd x0 m0 u v) CS (kd 71) (rf 71) (gM0 71)) H := hP 71 _ rfl
set_option maxRecDepth 100000 in
theorem gat_72 {D : va_G} {CS : ClassId × ClassId × ClassId} {x0 m0 : Nat} {u : sX8} {v : Nat → Nat} {H : Heap} (hP : va_P D vwCl (gWF CS x0 m0 u v) H) : va_at D vwCl (gAd x0 m0 u v 72, gcell (gAd x0 m0 u v) CS (kd 72) (rf 72) (gM0 72)) H := hP 72 _ rfl
set_option maxRecDepth 100000 in
theorem gat_73 {D : va_G} {CS : ClassId × ClassId × ClassId} {x0 m0 : Nat} {u : sX8} {v : Nat → Nat} {H : Heap} (hP : va_P D vwCl (gWF CS x0 m0 u v) H) : va_at D vwCl (gAd x0 m0 u v 73, gcell (gAd x0 m0 u v) CS (kd 73) (rf 73) (gM0 73)) H :=
  g_outer (hP 73 _ rfl) (lt_s (lt_s (lt_s (lt_s (lt_s (lt_s (lt_s (lt_s (lt_s (lt_s (lt_s (lt_s (lt_0) rfl) rfl) rfl) rfl) rfl) rfl) rfl) rfl) rfl) rfl) rfl) rfl)
set_option maxRecDepth 100000 in
theorem gat_74 {D : va_G} {CS : ClassId × ClassId × ClassId} {x0 m0 : Nat} {u : sX8} {v : Nat → Nat} {H : Heap} (hP : va_P D vwCl (gWF CS x0 m0 u v) H) : va_at D vwCl (gAd x0 m0 u v 74, gcell (gAd x0 m0 u v) CS (kd 74) (rf 74) (gM0 74)) H := hP 74 _ rfl
set_option maxRecDepth 100000 in
theorem gat_75 {D : va_G} {CS : ClassId × ClassId × ClassId} {x0 m0 : Nat} {u : sX8} {v : Nat → Nat} {H : Heap} (hP : va_P D vwCl (gWF CS x0 m0 u v) H) : va_at D vwCl (gAd x0 m0 u v 75, gcell (gAd x0 m0 u v) CS (kd 75) (rf 75) (gM0 75)) H := hP 75 _ rfl
set_option maxRecDepth 100000 in
theorem gat_76 {D : va_G} {CS : ClassId × ClassId × ClassId} {x0 m0 : Nat} {u : sX8} {v : Nat → Nat} {H : Heap} (hP : va_P D vwCl (gWF CS x0 m0 u v) H) : va_at D vwCl (gAd x0 m0 u v 76, gcell (gAd x0 m0 u v) CS (kd 76) (rf 76) (gM0 76)) H := hP 76 _ rfl
set_option maxRecDepth 100000 in
theorem gat_77 {D : va_G} {CS : ClassId × ClassId × ClassId} {x0 m0 : Nat} {u : sX8} {v : Nat → Nat} {H : Heap} (hP : va_P D vwCl (gWF CS x0 m0 u v) H) : va_at D vwCl (gAd x0 m0 u v 77, gcell (gAd x0 m0 u v) CS (kd 77) (rf 77) (gM0 77)) H := hP 77 _ rfl
set_option maxRecDepth 100000 in
theorem gat_78 {D : va_G} {CS : ClassId × ClassId × ClassId} {x0 m0 : Nat} {u : sX8} {v : Nat → Nat} {H : Heap} (hP : va_P D vwCl (gWF CS x0 m0 u v) H) : va_at D vwCl (gAd x0 m0 u v 78, gcell (gAd x0 m0 u v) CS (kd 78) (rf 78) (gM0 78)) H := hP 78 _ rfl
set_option maxRecDepth 100000 in
theorem gat_79 {D : va_G} {CS : ClassId × ClassId × ClassId} {x0 m0 : Nat} {u : sX8} {v : Nat → Nat} {H : Heap} (hP : va_P D vwCl (gWF CS x0 m0 u v) H) : va_at D vwCl (gAd x0 m0 u v 79, gcell (gAd x0 m0 u v) CS (kd 79) (rf 79) (gM0 79)) H := hP 79 _ rfl
set_option maxRecDepth 100000 in
theorem gat_80 {D : va_G} {CS : ClassId × ClassId × ClassId} {x0 m0 : Nat} {u : sX8} {v : Nat → Nat} {H : Heap} (hP : va_P D vwCl (gWF CS x0 m0 u v) H) : va_at D vwCl (gAd x0 m0 u v 80, gcell (gAd x0 m0 u v) CS (kd 80) (rf 80) (gM0 80)) H := hP 80 _ rfl
set_option maxRecDepth 100000 in
theorem gat_81 {D : va_G} {CS : ClassId × ClassId × ClassId} {x0 m0 : Nat} {u : sX8} {v : Nat → Nat} {H : Heap} (hP : va_P D vwCl (gWF CS x0 m0 u v) H) : va_at D vwCl (gAd x0 m0 u v 81, gcell (gAd x0 m0 u v) CS (kd 81) (rf 81) (gM0 81)) H := hP 81 _ rfl
set_option maxRecDepth 100000 in
theorem gat_82 {D : va_G} {CS : ClassId × ClassId × ClassId} {x0 m0 : Nat} {u : sX8} {v : Nat → Nat} {H : Heap} (hP : va_P D vwCl (gWF CS x0 m0 u v) H) : va_at D vwCl (gAd x0 m0 u v 82, gcell (gAd x0 m0 u v) CS (kd 82) (rf 82) (gM0 82)) H := hP 82 _ rfl
set_option maxRecDepth 100000 in
theorem gat_83 {D : va_G} {CS : ClassId × ClassId × ClassId} {x0 m0 : Nat} {u : sX8} {v : Nat → Nat} {H : Heap} (hP : va_P D vwCl (gWF CS x0 m0 u v) H) : va_at D vwCl (gAd x0 m0 u v 83, gcell (gAd x0 m0 u v) CS (kd 83) (rf 83) (gM0 83)) H := hP 83 _ rfl
set_option maxRecDepth 100000 in
theorem gat_84 {D : va_G} {CS : ClassId × ClassId × ClassId} {x0 m0 : Nat} {u : sX8} {v : Nat → Nat} {H : Heap} (hP : va_P D vwCl (gWF CS x0 m0 u v) H) : va_at D vwCl (gAd x0 m0 u v 84, gcell (gAd x0 m0 u v) CS (kd 84) (rf 84) (gM0 84)) H := hP 84 _ rfl
set_option maxRecDepth 100000 in
theorem gat_85 {D : va_G} {CS : ClassId × ClassId × ClassId} {x0 m0 : Nat} {u : sX8} {v : Nat → Nat} {H : Heap} (hP : va_P D vwCl (gWF CS x0 m0 u v) H) : va_at D vwCl (gAd x0 m0 u v 85, gcell (gAd x0 m0 u v) CS (kd 85) (rf 85) (gM0 85)) H := hP 85 _ rfl
set_option maxRecDepth 100000 in
theorem gat_86 {D : va_G} {CS : ClassId × ClassId × ClassId} {x0 m0 : Nat} {u : sX8} {v : Nat → Nat} {H : Heap} (hP : va_P D vwCl (gWF CS x0 m0 u v) H) : va_at D vwCl (gAd x0 m0 u v 86, gcell (gAd x0 m0 u v) CS (kd 86) (rf 86) (gM0 86)) H := hP 86 _ rfl
set_option maxRecDepth 100000 in
theorem gat_87 {D : va_G} {CS : ClassId × ClassId × ClassId} {x0 m0 : Nat} {u : sX8} {v : Nat → Nat} {H : Heap} (hP : va_P D vwCl (gWF CS x0 m0 u v) H) : va_at D vwCl (gAd x0 m0 u v 87, gcell (gAd x0 m0 u v) CS (kd 87) (rf 87) (gM0 87)) H := hP 87 _ rfl
set_option maxRecDepth 100000 in
theorem gat_88 {D : va_G} {CS : ClassId × ClassId × ClassId} {x0 m0 : Nat} {u : sX8} {v : Nat → Nat} {H : Heap} (hP : va_P D vwCl (gWF CS x0 m0 u v) H) : va_at D vwCl (gAd x0 m0 u v 88, gcell (gAd x0 m0 u v) CS (kd 88) (rf 88) (gM0 88)) H := hP 88 _ rfl
set_option maxRecDepth 100000 in
theorem gat_89 {D : va_G} {CS : ClassId × ClassId × ClassId} {x0 m0 : Nat} {u : sX8} {v : Nat → Nat} {H : Heap} (hP : va_P D vwCl (gWF CS x0 m0 u v) H) : va_at D vwCl (gAd x0 m0 u v 89, gcell (gAd x0 m0 u v) CS (kd 89) (rf 89) (gM0 89)) H := hP 89 _ rfl
set_option maxRecDepth 100000 in
theorem gat_90 {D : va_G} {CS : ClassId × ClassId × ClassId} {x0 m0 : Nat} {u : sX8} {v : Nat → Nat} {H : Heap} (hP : va_P D vwCl (gWF CS x0 m0 u v) H) : va_at D vwCl (gAd x0 m0 u v 90, gcell (gAd x0 m0 u v) CS (kd 90) (rf 90) (gM0 90)) H := hP 90 _ rfl
set_option maxRecDepth 100000 in
theorem gat_91 {D : va_G} {CS : ClassId × ClassId × ClassId} {x0 m0 : Nat} {u : sX8} {v : Nat → Nat} {H : Heap} (hP : va_P D vwCl (gWF CS x0 m0 u v) H) : va_at D vwCl (gAd x0 m0 u v 91, gcell (gAd x0 m0 u v) CS (kd 91) (rf 91) (gM0 91)) H := hP 91 _ rfl
set_option maxRecDepth 100000 in
theorem gat_92 {D : va_G} {CS : ClassId × ClassId × ClassId} {x0 m0 : Nat} {u : sX8} {v : Nat → Nat} {H : Heap} (hP : va_P D vwCl (gWF CS x0 m0 u v) H) : va_at D vwCl (gAd x0 m0 u v 92, gcell (gAd x0 m0 u v) CS (kd 92) (rf 92) (gM0 92)) H := hP 92 _ rfl
set_option maxRecDepth 100000 in
theorem gat_93 {D : va_G} {CS : ClassId × ClassId × ClassId} {x0 m0 : Nat} {u : sX8} {v : Nat → Nat} {H : Heap} (hP : va_P D vwCl (gWF CS x0 m0 u v) H) : va_at D vwCl (gAd x0 m0 u v 93, gcell (gAd x0 m0 u v) CS (kd 93) (rf 93) (gM0 93)) H := hP 93 _ rfl
set_option maxRecDepth 100000 in
theorem gat_94 {D : va_G} {CS : ClassId × ClassId × ClassId} {x0 m0 : Nat} {u : sX8} {v : Nat → Nat} {H : Heap} (hP : va_P D vwCl (gWF CS x0 m0 u v) H) : va_at D vwCl (gAd x0 m0 u v 94, gcell (gAd x0 m0 u v) CS (kd 94) (rf 94) (gM0 94)) H := hP 94 _ rfl
set_option maxRecDepth 100000 in
theorem gat_95 {D : va_G} {CS : ClassId × ClassId × ClassId} {x0 m0 : Nat} {u : sX8} {v : Nat → Nat} {H : Heap} (hP : va_P D vwCl (gWF CS x0 m0 u v) H) : va_at D vwCl (gAd x0 m0 u v 95, gcell (gAd x0 m0 u v) CS (kd 95) (rf 95) (gM0 95)) H := hP 95 _ rfl
set_option maxRecDepth 100000 in
theorem gat_96 {D : va_G} {CS : ClassId × ClassId × ClassId} {x0 m0 : Nat} {u : sX8} {v : Nat → Nat} {H : Heap} (hP : va_P D vwCl (gWF CS x0 m0 u v) H) : va_at D vwCl (gAd x0 m0 u v 96, gcell (gAd x0 m0 u v) CS (kd 96) (rf 96) (gM0 96)) H := hP 96 _ rfl
set_option maxRecDepth 100000 in
theorem gat_97 {D : va_G} {CS : ClassId × ClassId × ClassId} {x0 m0 : Nat} {u : sX8} {v : Nat → Nat} {H : Heap} (hP : va_P D vwCl (gWF CS x0 m0 u v) H) : va_at D vwCl (gAd x0 m0 u v 97, gcell (gAd x0 m0 u v) CS (kd 97) (rf 97) (gM0 97)) H := hP 97 _ rfl
set_option maxRecDepth 100000 in
theorem gat_98 {D : va_G} {CS : ClassId × ClassId × ClassId} {x0 m0 : Nat} {u : sX8} {v : Nat → Nat} {H : Heap} (hP : va_P D vwCl (gWF CS x0 m0 u v) H) : va_at D vwCl (gAd x0 m0 u v 98, gcell (gAd x0 m0 u v) CS (kd 98) (rf 98) (gM0 98)) H := hP 98 _ rfl
set_option maxRecDepth 100000 in
theorem gat_99 {D : va_G} {CS : ClassId × ClassId × ClassId} {x0 m0 : Nat} {u : sX8} {v : Nat → Nat} {H : Heap} (hP : va_P D vwCl (gWF CS x0 m0 u v) H) : va_at D vwCl (gAd x0 m0 u v 99, gcell (gAd x0 m0 u v) CS (kd 99) (rf 99) (gM0 99)) H := hP 99 _ rfl
set_option maxRecDepth 100000 in
theorem gat_100 {D : va_G} {CS : ClassId × ClassId × ClassId} {x0 m0 : Nat} {u : sX8} {v : Nat → Nat} {H : Heap} (hP : va_P D vwCl (gWF CS x0 m0 u v) H) : va_at D vwCl (gAd x0 m0 u v 100, gcell (gAd x0 m0 u v) CS (kd 100) (rf 100) (gM0 100)) H := hP 100 _ rfl
set_option maxRecDepth 100000 in
theorem gat_101 {D : va_G} {CS : ClassId × ClassId × ClassId} {x0 m0 : Nat} {u : sX8} {v : Nat → Nat} {H : Heap} (hP : va_P D vwCl (gWF CS x0 m0 u v) H) : va_at D vwCl (gAd x0 m0 u v 101, gcell (gAd x0 m0 u v) CS (kd 101) (rf 101) (gM0 101)) H := hP 101 _ rfl
set_option maxRecDepth 100000 in
theorem gat_102 {D : va_G} {CS : ClassId × ClassId × ClassId} {x0 m0 : Nat} {u : sX8} {v : Nat → Nat} {H : Heap} (hP : va_P D vwCl (gWF CS x0 m0 u v) H) : va_at D vwCl (gAd x0 m0 u v 102, gcell (gAd x0 m0 u v) CS (kd 102) (rf 102) (gM0 102)) H := hP 102 _ rfl
set_option maxRecDepth 100000 in
theorem gat_103 {D : va_G} {CS : ClassId × ClassId × ClassId} {x0 m0 : Nat} {u : sX8} {v : Nat → Nat} {H : Heap} (hP : va_P D vwCl (gWF CS x0 m0 u v) H) : va_at D vwCl (gAd x0 m0 u v 103, gcell (gAd x0 m0 u v) CS (kd 103) (rf 103) (gM0 103)) H := hP 103 _ rfl
set_option maxRecDepth 100000 in
theorem gat_104 {D : va_G} {CS : ClassId × ClassId × ClassId} {x0 m0 : Nat} {u : sX8} {v : Nat → Nat} {H : Heap} (hP : va_P D vwCl (gWF CS x0 m0 u v) H) : va_at D vwCl (gAd x0 m0 u v 104, gcell (gAd x0 m0 u v) CS (kd 104) (rf 104) (gM0 104)) H := hP 104 _ rfl
set_option maxRecDepth 100000 in
theorem gat_105 {D : va_G} {CS : ClassId × ClassId × ClassId} {x0 m0 : Nat} {u : sX8} {v : Nat → Nat} {H : Heap} (hP : va_P D vwCl (gWF CS x0 m0 u v) H) : va_at D vwCl (gAd x0 m0 u v 105, gcell (gAd x0 m0 u v) CS (kd 105) (rf 105) (gM0 105)) H := hP 105 _ rfl
set_option maxRecDepth 100000 in
theorem gat_106 {D : va_G} {CS : ClassId × ClassId × ClassId} {x0 m0 : Nat} {u : sX8} {v : Nat → Nat} {H : Heap} (hP : va_P D vwCl (gWF CS x0 m0 u v) H) : va_at D vwCl (gAd x0 m0 u v 106, gcell (gAd x0 m0 u v) CS (kd 106) (rf 106) (gM0 106)) H := hP 106 _ rfl
set_option maxRecDepth 100000 in
theorem gat_107 {D : va_G} {CS : ClassId × ClassId × ClassId} {x0 m0 : Nat} {u : sX8} {v : Nat → Nat} {H : Heap} (hP : va_P D vwCl (gWF CS x0 m0 u v) H) : va_at D vwCl (gAd x0 m0 u v 107, gcell (gAd x0 m0 u v) CS (kd 107) (rf 107) (gM0 107)) H := hP 107 _ rfl
set_option maxRecDepth 100000 in
theorem gat_108 {D : va_G} {CS : ClassId × ClassId × ClassId} {x0 m0 : Nat} {u : sX8} {v : Nat → Nat} {H : Heap} (hP : va_P D vwCl (gWF CS x0 m0 u v) H) : va_at D vwCl (gAd x0 m0 u v 108, gcell (gAd x0 m0 u v) CS (kd 108) (rf 108) (gM0 108)) H := hP 108 _ rfl
set_option maxRecDepth 100000 in
theorem gat_109 {D : va_G} {CS : ClassId × ClassId × ClassId} {x0 m0 : Nat} {u : sX8} {v : Nat → Nat} {H : Heap} (hP : va_P D vwCl (gWF CS x0 m0 u v) H) : va_at D vwCl (gAd x0 m0 u v 109, gcell (gAd x0 m0 u v) CS (kd 109) (rf 109) (gM0 109)) H := hP 109 _ rfl
set_option maxRecDepth 100000 in
theorem gat_110 {D : va_G} {CS : ClassId × ClassId × ClassId} {x0 m0 : Nat} {u : sX8} {v : Nat → Nat} {H : Heap} (hP : va_P D vwCl (gWF CS x0 m0 u v) H) : va_at D vwCl (gAd x0 m0 u v 110, gcell (gAd x0 m0 u v) CS (kd 110) (rf 110) (gM0 110)) H := hP 110 _ rfl
set_option maxRecDepth 100000 in
theorem gat_111 {D : va_G} {CS : ClassId × ClassId × ClassId} {x0 m0 : Nat} {u : sX8} {v : Nat → Nat} {H : Heap} (hP : va_P D vwCl (gWF CS x0 m0 u v) H) : va_at D vwCl (gAd x0 m0 u v 111, gcell (gAd x0 m0 u v) CS (kd 111) (rf 111) (gM0 111)) H := hP 111 _ rfl
set_option maxRecDepth 100000 in
theorem gat_112 {D : va_G} {CS : ClassId × ClassId × ClassId} {x0 m0 : Nat} {u : sX8} {v : Nat → Nat} {H : Heap} (hP : va_P D vwCl (gWF CS x0 m0 u v) H) : va_at D vwCl (gAd x0 m0 u v 112, gcell (gAd x0 m0 u v) CS (kd 112) (rf 112) (gM0 112)) H := hP 112 _ rfl
set_option maxRecDepth 100000 in
theorem gat_113 {D : va_G} {CS : ClassId × ClassId × ClassId} {x0 m0 : Nat} {u : sX8} {v : Nat → Nat} {H : Heap} (hP : va_P D vwCl (gWF CS x0 m0 u v) H) : va_at D vwCl (gAd x0 m0 u v 113, gcell (gAd x0 m0 u v) CS (kd 113) (rf 113) (gM0 113)) H := hP 113 _ rfl
set_option maxRecDepth 100000 in
theorem gat_114 {D : va_G} {CS : ClassId × ClassId × ClassId} {x0 m0 : Nat} {u : sX8} {v : Nat → Nat} {H : Heap} (hP : va_P D vwCl (gWF CS x0 m0 u v) H) : va_at D vwCl (gAd x0 m0 u v 114, gcell (gAd x0 m0 u v) CS (kd 114) (rf 114) (gM0 114)) H := hP 114 _ rfl
set_option maxRecDepth 100000 in
theorem gat_115 {D : va_G} {CS : ClassId × ClassId × ClassId} {x0 m0 : Nat} {u : sX8} {v : Nat → Nat} {H : Heap} (hP : va_P D vwCl (gWF CS x0 m0 u v) H) : va_at D vwCl (gAd x0 m0 u v 115, gcell (gAd x0 m0 u v) CS (kd 115) (rf 115) (gM0 115)) H := hP 115 _ rfl
set_option maxRecDepth 100000 in
theorem gat_116 {D : va_G} {CS : ClassId × ClassId × ClassId} {x0 m0 : Nat} {u : sX8} {v : Nat → Nat} {H : Heap} (hP : va_P D vwCl (gWF CS x0 m0 u v) H) : va_at D vwCl (gAd x0 m0 u v 116, gcell (gAd x0 m0 u v) CS (kd 116) (rf 116) (gM0 116)) H := hP 116 _ rfl
set_option maxRecDepth 100000 in
theorem gat_117 {D : va_G} {CS : ClassId × ClassId × ClassId} {x0 m0 : Nat} {u : sX8} {v : Nat → Nat} {H : Heap} (hP : va_P D vwCl (gWF CS x0 m0 u v) H) : va_at D vwCl (gAd x0 m0 u v 117, gcell (gAd x0 m0 u v) CS (kd 117) (rf 117) (gM0 117)) H := hP 117 _ rfl
set_option maxRecDepth 100000 in
theorem gat_118 {D : va_G} {CS : ClassId × ClassId × ClassId} {x0 m0 : Nat} {u : sX8} {v : Nat → Nat} {H : Heap} (hP : va_P D vwCl (gWF CS x0 m0 u v) H) : va_at D vwCl (gAd x0 m0 u v 118, gcell (gAd x0 m0 u v) CS (kd 118) (rf 118) (gM0 118)) H := hP 118 _ rfl
set_option maxRecDepth 100000 in
theorem gat_119 {D : va_G} {CS : ClassId × ClassId × ClassId} {x0 m0 : Nat} {u : sX8} {v : Nat → Nat} {H : Heap} (hP : va_P D vwCl (gWF CS x0 m0 u v) H) : va_at D vwCl (gAd x0 m0 u v 119, gcell (gAd x0 m0 u v) CS (kd 119) (rf 119) (gM0 119)) H := hP 119 _ rfl
set_option maxRecDepth 100000 in
theorem gwl_of {D : va_G} {CS : ClassId × ClassId × ClassId} {x0 m0 : Nat} {u : sX8} {v : Nat → Nat} {H : Heap} (hP : va_P D vwCl (gWF CS x0 m0 u v) H) : va_P D vwCl (gwl (gAd x0 m0 u v) CS gM0) H := by
  have key : ∀ k, k < gN → va_at D vwCl (gAd x0 m0 u v k, gcell (gAd x0 m0 u v) CS (kd k) (rf k) (gM0 k)) H := lt_s (lt_s (lt_s (lt_s (lt_s (lt_s (lt_s (lt_s (lt_s (lt_s (lt_s (lt_s (lt_s (lt_s (lt_s (lt_s (lt_s (lt_s (lt_s (lt_s (lt_s (lt_s (lt_s (lt_s (lt_s (lt_s (lt_s (lt_s (lt_s (lt_s (lt_s (lt_s (lt_s (lt_s (lt_s (lt_s (lt_s (lt_s (lt_s (lt_s (lt_s (lt_s (lt_s (lt_s (lt_s (lt_s (lt_s (lt_s (lt_s (lt_s (lt_s (lt_s (lt_s (lt_s (lt_s (lt_s (lt_s (lt_s (lt_s (lt_s (lt_s (lt_s (lt_s (lt_s (lt_s (lt_s (lt_s (lt_s (lt_s (lt_s (lt_s (lt_s (lt_s (lt_s (lt_s (lt_s (lt_s (lt_s (lt_s (lt_s (lt_s (lt_s (lt_s (lt_s (lt_s (lt_s (lt_s (lt_s (lt_s (lt_s (lt_s (lt_s (lt_s (lt_s (lt_s (lt_s (lt_s (lt_s (lt_s (lt_s (lt_s (lt_s (lt_s (lt_s (lt_s (lt_s (lt_s (lt_s (lt_s (lt_s (lt_s (lt_s (lt_s (lt_s (lt_s (lt_s (lt_s (lt_s (lt_s (lt_s (lt_0) (gat_0 hP)) (gat_1 hP)) (gat_2 hP)) (gat_3 hP)) (gat_4 hP)) (gat_5 hP)) (gat_6 hP)) (gat_7 hP)) (gat_8 hP)) (gat_9 hP)) (gat_10 hP)) (gat_11 hP)) (gat_12 hP)) (gat_13 hP)) (gat_14 hP)) (gat_15 hP)) (gat_16 hP)) (gat_17 hP)) (gat_18 hP)) (gat_19 hP)) (gat_20 hP)) (gat_21 hP)) (gat_22 hP)) (gat_23 hP)) (gat_24 hP)) (gat_25 hP)) (gat_26 hP)) (gat_27 hP)) (gat_28 hP)) (gat_29 hP)) (gat_30 hP)) (gat_31 hP)) (gat_32 hP)) (gat_33 hP)) (gat_34 hP)) (gat_35 hP)) (gat_36 hP)) (gat_37 hP)) (gat_38 hP)) (gat_39 hP)) (gat_40 hP)) (gat_41 hP)) (gat_42 hP)) (gat_43 hP)) (gat_44 hP)) (gat_45 hP)) (gat_46 hP)) (gat_47 hP)) (gat_48 hP)) (gat_49 hP)) (gat_50 hP)) (gat_51 hP)) (gat_52 hP)) (gat_53 hP)) (gat_54 hP)) (gat_55 hP)) (gat_56 hP)) (gat_57 hP)) (gat_58 hP)) (gat_59 hP)) (gat_60 hP)) (gat_61 hP)) (gat_62 hP)) (gat_63 hP)) (gat_64 hP)) (gat_65 hP)) (gat_66 hP)) (gat_67 hP)) (gat_68 hP)) (gat_69 hP)) (gat_70 hP)) (gat_71 hP)) (gat_72 hP)) (gat_73 hP)) (gat_74 hP)) (gat_75 hP)) (gat_76 hP)) (gat_77 hP)) (gat_78 hP)) (gat_79 hP)) (gat_80 hP)) (gat_81 hP)) (gat_82 hP)) (gat_83 hP)) (gat_84 hP)) (gat_85 hP)) (gat_86 hP)) (gat_87 hP)) (gat_88 hP)) (gat_89 hP)) (gat_90 hP)) (gat_91 hP)) (gat_92 hP)) (gat_93 hP)) (gat_94 hP)) (gat_95 hP)) (gat_96 hP)) (gat_97 hP)) (gat_98 hP)) (gat_99 hP)) (gat_100 hP)) (gat_101 hP)) (gat_102 hP)) (gat_103 hP)) (gat_104 hP)) (gat_105 hP)) (gat_106 hP)) (gat_107 hP)) (gat_108 hP)) (gat_109 hP)) (gat_110 hP)) (gat_111 hP)) (gat_112 hP)) (gat_113 hP)) (gat_114 hP)) (gat_115 hP)) (gat_116 hP)) (gat_117 hP)) (gat_118 hP)) (gat_119 hP)
  intro k q hk
  by_cases hn : k < gN
  · rw [gwl_get hn] at hk
    cases hk
    exact key k hn
  · rw [List.getElem?_eq_none (by simp [gwl]; omega)] at hk
    cases hk
set_option maxRecDepth 100000 in
theorem gWF_at {CS : ClassId × ClassId × ClassId} {x0 m0 : Nat} {u : sX8} {v : Nat → Nat} : ∀ k, k < gN → ∃ e, (gWF CS x0 m0 u v)[k]? = some (gAd x0 m0 u v k, e) := lt_s (lt_s (lt_s (lt_s (lt_s (lt_s (lt_s (lt_s (lt_s (lt_s (lt_s (lt_s (lt_s (lt_s (lt_s (lt_s (lt_s (lt_s (lt_s (lt_s (lt_s (lt_s (lt_s (lt_s (lt_s (lt_s (lt_s (lt_s (lt_s (lt_s (lt_s (lt_s (lt_s (lt_s (lt_s (lt_s (lt_s (lt_s (lt_s (lt_s (lt_s (lt_s (lt_s (lt_s (lt_s (lt_s (lt_s (lt_s (lt_s (lt_s (lt_s (lt_s (lt_s (lt_s (lt_s (lt_s (lt_s (lt_s (lt_s (lt_s (lt_s (lt_s (lt_s (lt_s (lt_s (lt_s (lt_s (lt_s (lt_s (lt_s (lt_s (lt_s (lt_s (lt_s (lt_s (lt_s (lt_s (lt_s (lt_s (lt_s (lt_s (lt_s (lt_s (lt_s (lt_s (lt_s (lt_s (lt_s (lt_s (lt_s (lt_s (lt_s (lt_s (lt_s (lt_s (lt_s (lt_s (lt_s (lt_s (lt_s (lt_s (lt_s (lt_s (lt_s (lt_s (lt_s (lt_s (lt_s (lt_s (lt_s (lt_s (lt_s (lt_s (lt_s (lt_s (lt_s (lt_s (lt_s (lt_s (lt_s (lt_0) ⟨_, rfl⟩) ⟨_, rfl⟩) ⟨_, rfl⟩) ⟨_, rfl⟩) ⟨_, rfl⟩) ⟨_, rfl⟩) ⟨_, rfl⟩) ⟨_, rfl⟩) ⟨_, rfl⟩) ⟨_, rfl⟩) ⟨_, rfl⟩) ⟨_, rfl⟩) ⟨_, rfl⟩) ⟨_, rfl⟩) ⟨_, rfl⟩) ⟨_, rfl⟩) ⟨_, rfl⟩) ⟨_, rfl⟩) ⟨_, rfl⟩) ⟨_, rfl⟩) ⟨_, rfl⟩) ⟨_, rfl⟩) ⟨_, rfl⟩) ⟨_, rfl⟩) ⟨_, rfl⟩) ⟨_, rfl⟩) ⟨_, rfl⟩) ⟨_, rfl⟩) ⟨_, rfl⟩) ⟨_, rfl⟩) ⟨_, rfl⟩) ⟨_, rfl⟩) ⟨_, rfl⟩) ⟨_, rfl⟩) ⟨_, rfl⟩) ⟨_, rfl⟩) ⟨_, rfl⟩) ⟨_, rfl⟩) ⟨_, rfl⟩) ⟨_, rfl⟩) ⟨_, rfl⟩) ⟨_, rfl⟩) ⟨_, rfl⟩) ⟨_, rfl⟩) ⟨_, rfl⟩) ⟨_, rfl⟩) ⟨_, rfl⟩) ⟨_, rfl⟩) ⟨_, rfl⟩) ⟨_, rfl⟩) ⟨_, rfl⟩) ⟨_, rfl⟩) ⟨_, rfl⟩) ⟨_, rfl⟩) ⟨_, rfl⟩) ⟨_, rfl⟩) ⟨_, rfl⟩) ⟨_, rfl⟩) ⟨_, rfl⟩) ⟨_, rfl⟩) ⟨_, rfl⟩) ⟨_, rfl⟩) ⟨_, rfl⟩) ⟨_, rfl⟩) ⟨_, rfl⟩) ⟨_, rfl⟩) ⟨_, rfl⟩) ⟨_, rfl⟩) ⟨_, rfl⟩) ⟨_, rfl⟩) ⟨_, rfl⟩) ⟨_, rfl⟩) ⟨_, rfl⟩) ⟨_, rfl⟩) ⟨_, rfl⟩) ⟨_, rfl⟩) ⟨_, rfl⟩) ⟨_, rfl⟩) ⟨_, rfl⟩) ⟨_, rfl⟩) ⟨_, rfl⟩) ⟨_, rfl⟩) ⟨_, rfl⟩) ⟨_, rfl⟩) ⟨_, rfl⟩) ⟨_, rfl⟩) ⟨_, rfl⟩) ⟨_, rfl⟩) ⟨_, rfl⟩) ⟨_, rfl⟩) ⟨_, rfl⟩) ⟨_, rfl⟩) ⟨_, rfl⟩) ⟨_, rfl⟩) ⟨_, rfl⟩) ⟨_, rfl⟩) ⟨_, rfl⟩) ⟨_, rfl⟩) ⟨_, rfl⟩) ⟨_, rfl⟩) ⟨_, rfl⟩) ⟨_, rfl⟩) ⟨_, rfl⟩) ⟨_, rfl⟩) ⟨_, rfl⟩) ⟨_, rfl⟩) ⟨_, rfl⟩) ⟨_, rfl⟩) ⟨_, rfl⟩) ⟨_, rfl⟩) ⟨_, rfl⟩) ⟨_, rfl⟩) ⟨_, rfl⟩) ⟨_, rfl⟩) ⟨_, rfl⟩) ⟨_, rfl⟩) ⟨_, rfl⟩) ⟨_, rfl⟩) ⟨_, rfl⟩) ⟨_, rfl⟩
theorem gInj_of {A : Nat → Prop} {CS : ClassId × ClassId × ClassId} {x0 m0 : Nat} {u : sX8} {v : Nat → Nat} (hD : va_D A (gWF CS x0 m0 u v)) : gInj (gAd x0 m0 u v) ∧ ∀ k, k < gN → A (gAd x0 m0 u v k) := by
  refine ⟨fun i j hi hj e => ?_, fun k hk => ?_⟩
  · obtain ⟨e1, h1⟩ := gWF_at (CS := CS) (x0 := x0) (m0 := m0) (u := u) (v := v) i hi
    obtain ⟨e2, h2⟩ := gWF_at (CS := CS) (x0 := x0) (m0 := m0) (u := u) (v := v) j hj
    exact hD.1 i j _ _ h1 h2 e
  · obtain ⟨e1, h1⟩ := gWF_at (CS := CS) (x0 := x0) (m0 := m0) (u := u) (v := v) k hk
    exact hD.2 k _ h1
