/-! throw new NoSuchElementException("text") -/
section ZN
variable {C : zC} {n pc : Nat} {lv st : List Value} {h : zH}
theorem zV_nse {text : String} {is i : Nat} (hown : cown C = RX5) (hs : zstr[i]? = some (RX5, is, text)) (hdk : 6 ≤ cd C ∧ n + 1 ≤ ck C)
    (d0 : decode (ccc C) pc = .ok (.new 134, 3)) (d3 : decode (ccc C) (pc + 3) = .ok (.dup, 1)) (d4 : decode (ccc C) (pc + 4) = .ok (.ldc is, 2)) (d6 : decode (ccc C) (pc + 6) = .ok (.invokespecial 138, 3)) (d9 : decode (ccc C) (pc + 9) = .ok (.athrow, 1))
    (hX : cX C "java/util/NoSuchElementException" h) : zV C n pc lv [] h := sorry
end ZN
