section SND6
variable {p : Program} {l : Launch} {e : Env} {R : Room} {s : State} {mid : MethodId} {args : Array Value} {below : List Frame} {meth : Method} {c : Code} {Q : State → Prop} {G : Heap} {b zp L0 : Nat} {xs : Nat → Int32} {D : va_G} {ca : Nat → ClassId} {h0 s0 : Nat} {q : ip_I} {d pc len : Nat} {L L' : ip_L} {st st' : List Value} {hp hp' : ip_H} {pc' : Nat}
theorem sd_mu {idx dims : Nat} (C : ip_cx p s mid args meth c G b zp L0 xs D ca q) (hd : decode q.2.2.1 pc = .ok (.multianewarray idx dims, 4)) (h : ip_xmu q.1 idx dims (pc + 4) L hp st = some (.inl (pc', L', st', hp'))) (hC : hp'.1 ≤ R.cells + h0) (hS : hp'.2.1 ≤ R.slots + s0) (k : ip_W p l e R s mid args below meth c Q G b zp L0 xs D ca h0 s0 pc' L' st' hp') : ip_W p l e R s mid args below meth c Q G b zp L0 xs D ca h0 s0 pc L st hp := by
  sorry
end SND6
