/-! branches -/
def fwIf (c : ClassFile.Cond) (x : Int32) : Prop := match c with
  | .eq => x = 0 | .ne => ¬ x = 0 | .lt => x < 0 | .ge => 0 ≤ x | .gt => 0 < x | .le => x ≤ 0
def fwCmp (c : ClassFile.Cond) (x y : Int32) : Prop := match c with
  | .eq => x = y | .ne => ¬ x = y | .lt => x < y | .ge => y ≤ x | .gt => y < x | .le => x ≤ y
section FWB
variable {l : Launch} {Z : fwZ} {M : fwM} {d mc ms : Nat} {Post : fwPost} {nc ns pc : Nat} {ls : List (Option Value)} {st : List Value} {sh : List fwE} {σ : fwS}
theorem fwg_if {c : ClassFile.Cond} {off : Int} {x : Int32} (tgt : Nat) (hd : decode M.2.1 pc = .ok (.ifCond c off, 3)) (ht : (pc : Int) + off = (tgt : Int)) (kt : fwIf c x → fwG l Z M d mc ms Post nc ns tgt ls st sh σ) (kf : ¬ fwIf c x → fwG l Z M d mc ms Post nc ns (pc + 3) ls st sh σ) : fwG l Z M d mc ms Post nc ns pc ls (.int x :: st) sh σ := by
  intro p e s m args below meth cc H locs Ls hE hO hS hL
  cases c
  · exact lv_if_eq hE.1 hE.2.1 hd ht (fun h => kt h p e s m args below meth cc H locs Ls hE hO hS hL) (fun h => kf h p e s m args below meth cc H locs Ls hE hO hS hL)
  · exact lv_if_ne hE.1 hE.2.1 hd ht (fun h => kt h p e s m args below meth cc H locs Ls hE hO hS hL) (fun h => kf (fun q => q h) p e s m args below meth cc H locs Ls hE hO hS hL)
  · exact lv_if_lt hE.1 hE.2.1 hd ht (fun h => kt h p e s m args below meth cc H locs Ls hE hO hS hL) (fun h => kf h p e s m args below meth cc H locs Ls hE hO hS hL)
  · exact lv_if_ge hE.1 hE.2.1 hd ht (fun h => kt h p e s m args below meth cc H locs Ls hE hO hS hL) (fun h => kf h p e s m args below meth cc H locs Ls hE hO hS hL)
  · exact lv_if_gt hE.1 hE.2.1 hd ht (fun h => kt h p e s m args below meth cc H locs Ls hE hO hS hL) (fun h => kf h p e s m args below meth cc H locs Ls hE hO hS hL)
  · exact lv_if_le hE.1 hE.2.1 hd ht (fun h => kt h p e s m args below meth cc H locs Ls hE hO hS hL) (fun h => kf h p e s m args below meth cc H locs Ls hE hO hS hL)
theorem fwg_cmp {c : ClassFile.Cond} {off : Int} {x y : Int32} (tgt : Nat) (hd : decode M.2.1 pc = .ok (.if_icmp c off, 3)) (ht : (pc : Int) + off = (tgt : Int)) (kt : fwCmp c x y → fwG l Z M d mc ms Post nc ns tgt ls st sh σ) (kf : ¬ fwCmp c x y → fwG l Z M d mc ms Post nc ns (pc + 3) ls st sh σ) : fwG l Z M d mc ms Post nc ns pc ls (.int y :: .int x :: st) sh σ := by
  intro p e s m args below meth cc H locs Ls hE hO hS hL
  cases c
  · exact lv_icmp_eq hE.1 hE.2.1 hd ht (fun h => kt h p e s m args below meth cc H locs Ls hE hO hS hL) (fun h => kf h p e s m args below meth cc H locs Ls hE hO hS hL)
  · exact lv_icmp_ne hE.1 hE.2.1 hd ht (fun h => kt h p e s m args below meth cc H locs Ls hE hO hS hL) (fun h => kf (fun q => q h) p e s m args below meth cc H locs Ls hE hO hS hL)
  · exact lv_icmp_lt hE.1 hE.2.1 hd ht (fun h => kt h p e s m args below meth cc H locs Ls hE hO hS hL) (fun h => kf h p e s m args below meth cc H locs Ls hE hO hS hL)
  · exact lv_icmp_ge hE.1 hE.2.1 hd ht (fun h => kt h p e s m args below meth cc H locs Ls hE hO hS hL) (fun h => kf h p e s m args below meth cc H locs Ls hE hO hS hL)
  · exact lv_icmp_gt hE.1 hE.2.1 hd ht (fun h => kt h p e s m args below meth cc H locs Ls hE hO hS hL) (fun h => kf h p e s m args below meth cc H locs Ls hE hO hS hL)
  · exact lv_icmp_le hE.1 hE.2.1 hd ht (fun h => kt h p e s m args below meth cc H locs Ls hE hO hS hL) (fun h => kf h p e s m args below meth cc H locs Ls hE hO hS hL)
theorem fwg_goto {off : Int} (tgt : Nat) (hd : decode M.2.1 pc = .ok (.goto off, 3)) (ht : (pc : Int) + off = (tgt : Int)) (k : fwG l Z M d mc ms Post nc ns tgt ls st sh σ) : fwG l Z M d mc ms Post nc ns pc ls st sh σ :=
  fun p e s m args below meth cc H locs Ls hE hO hS hL => lv_goto hE.1 hE.2.1 hd ht (k p e s m args below meth cc H locs Ls hE hO hS hL)
theorem fwg_tabIn {dflt lo hi off : Int} {offs : Array Int} {len : Nat} {x : Int32} (tgt : Nat) (hd : decode M.2.1 pc = .ok (.tableswitch dflt lo hi offs, len)) (h1 : ¬ x.toInt < lo) (h2 : ¬ hi < x.toInt) (ho : offs[(x.toInt - lo).toNat]? = some off) (ht : (pc : Int) + off = (tgt : Int)) (k : fwG l Z M d mc ms Post nc ns tgt ls st sh σ) : fwG l Z M d mc ms Post nc ns pc ls (.int x :: st) sh σ :=
  fun p e s m args below meth cc H locs Ls hE hO hS hL => lv_tableIn hE.1 hE.2.1 hd h1 h2 ho ht (k p e s m args below meth cc H locs Ls hE hO hS hL)
theorem fwg_tabOut {dflt lo hi : Int} {offs : Array Int} {len : Nat} {x : Int32} (tgt : Nat) (hd : decode M.2.1 pc = .ok (.tableswitch dflt lo hi offs, len)) (h : x.toInt < lo ∨ hi < x.toInt) (ht : (pc : Int) + dflt = (tgt : Int)) (k : fwG l Z M d mc ms Post nc ns tgt ls st sh σ) : fwG l Z M d mc ms Post nc ns pc ls (.int x :: st) sh σ :=
  fun p e s m args below meth cc H locs Ls hE hO hS hL => lv_tableOut hE.1 hE.2.1 hd h ht (k p e s m args below meth cc H locs Ls hE hO hS hL)
theorem fwg_look {dflt off : Int} {ps : Array (Int × Int)} {len : Nat} {x : Int32} (tgt : Nat) (hd : decode M.2.1 pc = .ok (.lookupswitch dflt ps, len)) (hp : (ps.toList.zip (ps.toList.drop 1)).all (fun (a, next) => a.1 < next.1) = true) (ho : Op.lookupswitch.offset ps.toList dflt x.toInt = off) (ht : (pc : Int) + off = (tgt : Int)) (k : fwG l Z M d mc ms Post nc ns tgt ls st sh σ) : fwG l Z M d mc ms Post nc ns pc ls (.int x :: st) sh σ :=
  fun p e s m args below meth cc H locs Ls hE hO hS hL => lv_lookup hE.1 hE.2.1 hd hp ho ht (k p e s m args below meth cc H locs Ls hE hO hS hL)
end FWB
