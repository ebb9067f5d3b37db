theorem mk_okl_all : ∀ oc, oc < 19 → (mp_lkT.getD oc []).all (mk_oklq oc) = true := sorry
theorem mk_okq_all : ∀ mi, mi < 307 → mk_okq mi = true := sorry
def md_ok (b : ByteArray) (q : Nat × Instr × Nat) : Bool := decide (decode b q.1 = .ok (q.2.1, q.2.2)) && (decide (q.2.2 = mq_ln q.2.1) || (match q.2.1 with
  | .tableswitch _ _ _ _ => true
  | _ => false))
theorem md_all : ∀ mi, mi < 307 → (mp_cd.getD mi []).all (md_ok (mk_b mi)) = true := sorry
