/-! READING: links, settings, nodes, words -/
noncomputable def m_rl_r (σ : pr_I) (n : Nat) (q : Nat) (fn : Nat) (fl : Nat) : Int32 := (if (nI fl) = (nI 24) then (0 : Int32) else (if (m_re_r (pr_up σ 0 9 (nI (we (σ 7) n q))) n (we (σ 7) n q) fn (96 + 7 * fl + 0) ((-1) : Int32)) = 0 then (0 : Int32) else (if (m_re_r (pr_up (pr_up (pr_up (pr_up (pr_up σ 0 9 (nI (we (σ 7) n q))) 0 9 (nI (sk (σ 7) n (we (σ 7) n q)))) 0 10 (nI (sk (σ 7) n (we (σ 7) n q)))) 3 (96 + 7 * fl + 0) (nmd (σ 3) (σ 7) (sk (σ 7) n (we (σ 7) n q)) ((we (σ 7) n (sk (σ 7) n (we (σ 7) n q))) - (sk (σ 7) n (we (σ 7) n q))) fn)) 0 9 (nI (we (σ 7) n (sk (σ 7) n (we (σ 7) n q))))) n (we (σ 7) n (sk (σ 7) n (we (σ 7) n q))) fn (96 + 7 * fl + 1) (nmd (σ 3) (σ 7) (sk (σ 7) n (we (σ 7) n q)) ((we (σ 7) n (sk (σ 7) n (we (σ 7) n q))) - (sk (σ 7) n (we (σ 7) n q))) fn)) = 0 then (0 : Int32) else (if (m_rd_r (pr_up (pr_up (pr_up (pr_up (pr_up (pr_up (pr_up (pr_up (pr_up σ 0 9 (nI (we (σ 7) n q))) 0 9 (nI (sk (σ 7) n (we (σ 7) n q)))) 0 10 (nI (sk (σ 7) n (we (σ 7) n q)))) 3 (96 + 7 * fl + 0) (nmd (σ 3) (σ 7) (sk (σ 7) n (we (σ 7) n q)) ((we (σ 7) n (sk (σ 7) n (we (σ 7) n q))) - (sk (σ 7) n (we (σ 7) n q))) fn)) 0 9 (nI (we (σ 7) n (sk (σ 7) n (we (σ 7) n q))))) 0 9 (nI (sk (σ 7) n (we (σ 7) n (sk (σ 7) n (we (σ 7) n q)))))) 0 10 (nI (sk (σ 7) n (we (σ 7) n (sk (σ 7) n (we (σ 7) n q)))))) 3 (96 + 7 * fl + 1) (nmd ((pr_up (pr_up (pr_up (pr_up σ 0 9 (nI (we (σ 7) n q))) 0 9 (nI (sk (σ 7) n (we (σ 7) n q)))) 0 10 (nI (sk (σ 7) n (we (σ 7) n q)))) 3 (96 + 7 * fl + 0) (nmd (σ 3) (σ 7) (sk (σ 7) n (we (σ 7) n q)) ((we (σ 7) n (sk (σ 7) n (we (σ 7) n q))) - (sk (σ 7) n (we (σ 7) n q))) fn)) 3) (σ 7) (sk (σ 7) n (we (σ 7) n (sk (σ 7) n (we (σ 7) n q)))) ((we (σ 7) n (sk (σ 7) n (we (σ 7) n (sk (σ 7) n (we (σ 7) n q))))) - (sk (σ 7) n (we (σ 7) n (sk (σ 7) n (we (σ 7) n q))))) fn)) 0 9 (nI (we (σ 7) n (sk (σ 7) n (we (σ 7) n (sk (σ 7) n (we (σ 7) n q))))))) n (we (σ 7) n (sk (σ 7) n (we (σ 7) n (sk (σ 7) n (we (σ 7) n q))))) (96 + 7 * fl + 2) (0 : Int32) (1000 : Int32)) = 0 then (0 : Int32) else (if (m_rd_r (pr_up (pr_up (pr_up (pr_up (pr_up (pr_up (pr_up (pr_up (pr_up (pr_up (pr_up (pr_up (pr_up σ 0 9 (nI (we (σ 7) n q))) 0 9 (nI (sk (σ 7) n (we (σ 7) n q)))) 0 10 (nI (sk (σ 7) n (we (σ 7) n q)))) 3 (96 + 7 * fl + 0) (nmd (σ 3) (σ 7) (sk (σ 7) n (we (σ 7) n q)) ((we (σ 7) n (sk (σ 7) n (we (σ 7) n q))) - (sk (σ 7) n (we (σ 7) n q))) fn)) 0 9 (nI (we (σ 7) n (sk (σ 7) n (we (σ 7) n q))))) 0 9 (nI (sk (σ 7) n (we (σ 7) n (sk (σ 7) n (we (σ 7) n q)))))) 0 10 (nI (sk (σ 7) n (we (σ 7) n (sk (σ 7) n (we (σ 7) n q)))))) 3 (96 + 7 * fl + 1) (nmd ((pr_up (pr_up (pr_up (pr_up σ 0 9 (nI (we (σ 7) n q))) 0 9 (nI (sk (σ 7) n (we (σ 7) n q)))) 0 10 (nI (sk (σ 7) n (we (σ 7) n q)))) 3 (96 + 7 * fl + 0) (nmd (σ 3) (σ 7) (sk (σ 7) n (we (σ 7) n q)) ((we (σ 7) n (sk (σ 7) n (we (σ 7) n q))) - (sk (σ 7) n (we (σ 7) n q))) fn)) 3) (σ 7) (sk (σ 7) n (we (σ 7) n (sk (σ 7) n (we (σ 7) n q)))) ((we (σ 7) n (sk (σ 7) n (we (σ 7) n (sk (σ 7) n (we (σ 7) n q))))) - (sk (σ 7) n (we (σ 7) n (sk (σ 7) n (we (σ 7) n q))))) fn)) 0 9 (nI (we (σ 7) n (sk (σ 7) n (we (σ 7) n (sk (σ 7) n (we (σ 7) n q))))))) 0 9 (nI (sk (σ 7) n (we (σ 7) n (sk (σ 7) n (we (σ 7) n (sk (σ 7) n (we (σ 7) n q)))))))) 0 10 (nI (sk (σ 7) n (we (σ 7) n (sk (σ 7) n (we (σ 7) n (sk (σ 7) n (we (σ 7) n q)))))))) 0 9 (nI (nu (σ 7) n (sk (σ 7) n (we (σ 7) n (sk (σ 7) n (we (σ 7) n (sk (σ 7) n (we (σ 7) n q)))))) 0).1)) 3 (96 + 7 * fl + 2) ((nu (σ 7) n (sk (σ 7) n (we (σ 7) n (sk (σ 7) n (we (σ 7) n (sk (σ 7) n (we (σ 7) n q)))))) 0).2.toInt32)) n (nu (σ 7) n (sk (σ 7) n (we (σ 7) n (sk (σ 7) n (we (σ 7) n (sk (σ 7) n (we (σ 7) n q)))))) 0).1 (96 + 7 * fl + 3) (0 : Int32) (1000 : Int32)) = 0 then (0 : Int32) else (if (m_rd_r (pr_up (pr_up (pr_up (pr_up (pr_up (pr_up (pr_up (pr_up (pr_up (pr_up (pr_up (pr_up (pr_up (pr_up (pr_up (pr_up (pr_up σ 0 9 (nI (we (σ 7) n q))) 0 9 (nI (sk (σ 7) n (we (σ 7) n q)))) 0 10 (nI (sk (σ 7) n (we (σ 7) n q)))) 3 (96 + 7 * fl + 0) (nmd (σ 3) (σ 7) (sk (σ 7) n (we (σ 7) n q)) ((we (σ 7) n (sk (σ 7) n (we (σ 7) n q))) - (sk (σ 7) n (we (σ 7) n q))) fn)) 0 9 (nI (we (σ 7) n (sk (σ 7) n (we (σ 7) n q))))) 0 9 (nI (sk (σ 7) n (we (σ 7) n (sk (σ 7) n (we (σ 7) n q)))))) 0 10 (nI (sk (σ 7) n (we (σ 7) n (sk (σ 7) n (we (σ 7) n q)))))) 3 (96 + 7 * fl + 1) (nmd ((pr_up (pr_up (pr_up (pr_up σ 0 9 (nI (we (σ 7) n q))) 0 9 (nI (sk (σ 7) n (we (σ 7) n q)))) 0 10 (nI (sk (σ 7) n (we (σ 7) n q)))) 3 (96 + 7 * fl + 0) (nmd (σ 3) (σ 7) (sk (σ 7) n (we (σ 7) n q)) ((we (σ 7) n (sk (σ 7) n (we (σ 7) n q))) - (sk (σ 7) n (we (σ 7) n q))) fn)) 3) (σ 7) (sk (σ 7) n (we (σ 7) n (sk (σ 7) n (we (σ 7) n q)))) ((we (σ 7) n (sk (σ 7) n (we (σ 7) n (sk (σ 7) n (we (σ 7) n q))))) - (sk (σ 7) n (we (σ 7) n (sk (σ 7) n (we (σ 7) n q))))) fn)) 0 9 (nI (we (σ 7) n (sk (σ 7) n (we (σ 7) n (sk (σ 7) n (we (σ 7) n q))))))) 0 9 (nI (sk (σ 7) n (we (σ 7) n (sk (σ 7) n (we (σ 7) n (sk (σ 7) n (we (σ 7) n q)))))))) 0 10 (nI (sk (σ 7) n (we (σ 7) n (sk (σ 7) n (we (σ 7) n (sk (σ 7) n (we (σ 7) n q)))))))) 0 9 (nI (nu (σ 7) n (sk (σ 7) n (we (σ 7) n (sk (σ 7) n (we (σ 7) n (sk (σ 7) n (we (σ 7) n q)))))) 0).1)) 3 (96 + 7 * fl + 2) ((nu (σ 7) n (sk (σ 7) n (we (σ 7) n (sk (σ 7) n (we (σ 7) n (sk (σ 7) n (we (σ 7) n q)))))) 0).2.toInt32)) 0 9 (nI (sk (σ 7) n (nu (σ 7) n (sk (σ 7) n (we (σ 7) n (sk (σ 7) n (we (σ 7) n (sk (σ 7) n (we (σ 7) n q)))))) 0).1))) 0 10 (nI (sk (σ 7) n (nu (σ 7) n (sk (σ 7) n (we (σ 7) n (sk (σ 7) n (we (σ 7) n (sk (σ 7) n (we (σ 7) n q)))))) 0).1))) 0 9 (nI (nu (σ 7) n (sk (σ 7) n (nu (σ 7) n (sk (σ 7) n (we (σ 7) n (sk (σ 7) n (we (σ 7) n (sk (σ 7) n (we (σ 7) n q)))))) 0).1) 0).1)) 3 (96 + 7 * fl + 3) ((nu (σ 7) n (sk (σ 7) n (nu (σ 7) n (sk (σ 7) n (we (σ 7) n (sk (σ 7) n (we (σ 7) n (sk (σ 7) n (we (σ 7) n q)))))) 0).1) 0).2.toInt32)) n (nu (σ 7) n (sk (σ 7) n (nu (σ 7) n (sk (σ 7) n (we (σ 7) n (sk (σ 7) n (we (σ 7) n (sk (σ 7) n (we (σ 7) n q)))))) 0).1) 0).1 (96 + 7 * fl + 4) (1 : Int32) (50 : Int32)) = 0 then (0 : Int32) else (1 : Int32)))))))
noncomputable def m_rl (σ : pr_I) (n : Nat) (q : Nat) (fn : Nat) (fl : Nat) : pr_I := (if (nI fl) = (nI 24) then (pr_up (pr_up σ 0 12 (4 : Int32)) 0 11 (nI q)) else (if (m_re_r (pr_up σ 0 9 (nI (we (σ 7) n q))) n (we (σ 7) n q) fn (96 + 7 * fl + 0) ((-1) : Int32)) = 0 then (m_re (pr_up σ 0 9 (nI (we (σ 7) n q))) n (we (σ 7) n q) fn (96 + 7 * fl + 0) ((-1) : Int32)) else (if (m_re_r (pr_up (pr_up (pr_up (pr_up (pr_up σ 0 9 (nI (we (σ 7) n q))) 0 9 (nI (sk (σ 7) n (we (σ 7) n q)))) 0 10 (nI (sk (σ 7) n (we (σ 7) n q)))) 3 (96 + 7 * fl + 0) (nmd (σ 3) (σ 7) (sk (σ 7) n (we (σ 7) n q)) ((we (σ 7) n (sk (σ 7) n (we (σ 7) n q))) - (sk (σ 7) n (we (σ 7) n q))) fn)) 0 9 (nI (we (σ 7) n (sk (σ 7) n (we (σ 7) n q))))) n (we (σ 7) n (sk (σ 7) n (we (σ 7) n q))) fn (96 + 7 * fl + 1) (nmd (σ 3) (σ 7) (sk (σ 7) n (we (σ 7) n q)) ((we (σ 7) n (sk (σ 7) n (we (σ 7) n q))) - (sk (σ 7) n (we (σ 7) n q))) fn)) = 0 then (m_re (pr_up (pr_up (pr_up (pr_up (pr_up σ 0 9 (nI (we (σ 7) n q))) 0 9 (nI (sk (σ 7) n (we (σ 7) n q)))) 0 10 (nI (sk (σ 7) n (we (σ 7) n q)))) 3 (96 + 7 * fl + 0) (nmd (σ 3) (σ 7) (sk (σ 7) n (we (σ 7) n q)) ((we (σ 7) n (sk (σ 7) n (we (σ 7) n q))) - (sk (σ 7) n (we (σ 7) n q))) fn)) 0 9 (nI (we (σ 7) n (sk (σ 7) n (we (σ 7) n q))))) n (we (σ 7) n (sk (σ 7) n (we (σ 7) n q))) fn (96 + 7 * fl + 1) (nmd (σ 3) (σ 7) (sk (σ 7) n (we (σ 7) n q)) ((we (σ 7) n (sk (σ 7) n (we (σ 7) n q))) - (sk (σ 7) n (we (σ 7) n q))) fn)) else (if (m_rd_r (pr_up (pr_up (pr_up (pr_up (pr_up (pr_up (pr_up (pr_up (pr_up σ 0 9 (nI (we (σ 7) n q))) 0 9 (nI (sk (σ 7) n (we (σ 7) n q)))) 0 10 (nI (sk (σ 7) n (we (σ 7) n q)))) 3 (96 + 7 * fl + 0) (nmd (σ 3) (σ 7) (sk (σ 7) n (we (σ 7) n q)) ((we (σ 7) n (sk (σ 7) n (we (σ 7) n q))) - (sk (σ 7) n (we (σ 7) n q))) fn)) 0 9 (nI (we (σ 7) n (sk (σ 7) n (we (σ 7) n q))))) 0 9 (nI (sk (σ 7) n (we (σ 7) n (sk (σ 7) n (we (σ 7) n q)))))) 0 10 (nI (sk (σ 7) n (we (σ 7) n (sk (σ 7) n (we (σ 7) n q)))))) 3 (96 + 7 * fl + 1) (nmd ((pr_up (pr_up (pr_up (pr_up σ 0 9 (nI (we (σ 7) n q))) 0 9 (nI (sk (σ 7) n (we (σ 7) n q)))) 0 10 (nI (sk (σ 7) n (we (σ 7) n q)))) 3 (96 + 7 * fl + 0) (nmd (σ 3) (σ 7) (sk (σ 7) n (we (σ 7) n q)) ((we (σ 7) n (sk (σ 7) n (we (σ 7) n q))) - (sk (σ 7) n (we (σ 7) n q))) fn)) 3) (σ 7) (sk (σ 7) n (we (σ 7) n (sk (σ 7) n (we (σ 7) n q)))) ((we (σ 7) n (sk (σ 7) n (we (σ 7) n (sk (σ 7) n (we (σ 7) n q))))) - (sk (σ 7) n (we (σ 7) n (sk (σ 7) n (we (σ 7) n q))))) fn)) 0 9 (nI (we (σ 7) n (sk (σ 7) n (we (σ 7) n (sk (σ 7) n (we (σ 7) n q))))))) n (we (σ 7) n (sk (σ 7) n (we (σ 7) n (sk (σ 7) n (we (σ 7) n q))))) (96 + 7 * fl + 2) (0 : Int32) (1000 : Int32)) = 0 then (m_rd (pr_up (pr_up (pr_up (pr_up (pr_up (pr_up (pr_up (pr_up (pr_up σ 0 9 (nI (we (σ 7) n q))) 0 9 (nI (sk (σ 7) n (we (σ 7) n q)))) 0 10 (nI (sk (σ 7) n (we (σ 7) n q)))) 3 (96 + 7 * fl + 0) (nmd (σ 3) (σ 7) (sk (σ 7) n (we (σ 7) n q)) ((we (σ 7) n (sk (σ 7) n (we (σ 7) n q))) - (sk (σ 7) n (we (σ 7) n q))) fn)) 0 9 (nI (we (σ 7) n (sk (σ 7) n (we (σ 7) n q))))) 0 9 (nI (sk (σ 7) n (we (σ 7) n (sk (σ 7) n (we (σ 7) n q)))))) 0 10 (nI (sk (σ 7) n (we (σ 7) n (sk (σ 7) n (we (σ 7) n q)))))) 3 (96 + 7 * fl + 1) (nmd ((pr_up (pr_up (pr_up (pr_up σ 0 9 (nI (we (σ 7) n q))) 0 9 (nI (sk (σ 7) n (we (σ 7) n q)))) 0 10 (nI (sk (σ 7) n (we (σ 7) n q)))) 3 (96 + 7 * fl + 0) (nmd (σ 3) (σ 7) (sk (σ 7) n (we (σ 7) n q)) ((we (σ 7) n (sk (σ 7) n (we (σ 7) n q))) - (sk (σ 7) n (we (σ 7) n q))) fn)) 3) (σ 7) (sk (σ 7) n (we (σ 7) n (sk (σ 7) n (we (σ 7) n q)))) ((we (σ 7) n (sk (σ 7) n (we (σ 7) n (sk (σ 7) n (we (σ 7) n q))))) - (sk (σ 7) n (we (σ 7) n (sk (σ 7) n (we (σ 7) n q))))) fn)) 0 9 (nI (we (σ 7) n (sk (σ 7) n (we (σ 7) n (sk (σ 7) n (we (σ 7) n q))))))) n (we (σ 7) n (sk (σ 7) n (we (σ 7) n (sk (σ 7) n (we (σ 7) n q))))) (96 + 7 * fl + 2) (0 : Int32) (1000 : Int32)) else (if (m_rd_r (pr_up (pr_up (pr_up (pr_up (pr_up (pr_up (pr_up (pr_up (pr_up (pr_up (pr_up (pr_up (pr_up σ 0 9 (nI (we (σ 7) n q))) 0 9 (nI (sk (σ 7) n (we (σ 7) n q)))) 0 10 (nI (sk (σ 7) n (we (σ 7) n q)))) 3 (96 + 7 * fl + 0) (nmd (σ 3) (σ 7) (sk (σ 7) n (we (σ 7) n q)) ((we (σ 7) n (sk (σ 7) n (we (σ 7) n q))) - (sk (σ 7) n (we (σ 7) n q))) fn)) 0 9 (nI (we (σ 7) n (sk (σ 7) n (we (σ 7) n q))))) 0 9 (nI (sk (σ 7) n (we (σ 7) n (sk (σ 7) n (we (σ 7) n q)))))) 0 10 (nI (sk (σ 7) n (we (σ 7) n (sk (σ 7) n (we (σ 7) n q)))))) 3 (96 + 7 * fl + 1) (nmd ((pr_up (pr_up (pr_up (pr_up σ 0 9 (nI (we (σ 7) n q))) 0 9 (nI (sk (σ 7) n (we (σ 7) n q)))) 0 10 (nI (sk (σ 7) n (we (σ 7) n q)))) 3 (96 + 7 * fl + 0) (nmd (σ 3) (σ 7) (sk (σ 7) n (we (σ 7) n q)) ((we (σ 7) n (sk (σ 7) n (we (σ 7) n q))) - (sk (σ 7) n (we (σ 7) n q))) fn)) 3) (σ 7) (sk (σ 7) n (we (σ 7) n (sk (σ 7) n (we (σ 7) n q)))) ((we (σ 7) n (sk (σ 7) n (we (σ 7) n (sk (σ 7) n (we (σ 7) n q))))) - (sk (σ 7) n (we (σ 7) n (sk (σ 7) n (we (σ 7) n q))))) fn)) 0 9 (nI (we (σ 7) n (sk (σ 7) n (we (σ 7) n (sk (σ 7) n (we (σ 7) n q))))))) 0 9 (nI (sk (σ 7) n (we (σ 7) n (sk (σ 7) n (we (σ 7) n (sk (σ 7) n (we (σ 7) n q)))))))) 0 10 (nI (sk (σ 7) n (we (σ 7) n (sk (σ 7) n (we (σ 7) n (sk (σ 7) n (we (σ 7) n q)))))))) 0 9 (nI (nu (σ 7) n (sk (σ 7) n (we (σ 7) n (sk (σ 7) n (we (σ 7) n (sk (σ 7) n (we (σ 7) n q)))))) 0).1)) 3 (96 + 7 * fl + 2) ((nu (σ 7) n (sk (σ 7) n (we (σ 7) n (sk (σ 7) n (we (σ 7) n (sk (σ 7) n (we (σ 7) n q)))))) 0).2.toInt32)) n (nu (σ 7) n (sk (σ 7) n (we (σ 7) n (sk (σ 7) n (we (σ 7) n (sk (σ 7) n (we (σ 7) n q)))))) 0).1 (96 + 7 * fl + 3) (0 : Int32) (1000 : Int32)) = 0 then (m_rd (pr_up (pr_up (pr_up (pr_up (pr_up (pr_up (pr_up (pr_up (pr_up (pr_up (pr_up (pr_up (pr_up σ 0 9 (nI (we (σ 7) n q))) 0 9 (nI (sk (σ 7) n (we (σ 7) n q)))) 0 10 (nI (sk (σ 7) n (we (σ 7) n q)))) 3 (96 + 7 * fl + 0) (nmd (σ 3) (σ 7) (sk (σ 7) n (we (σ 7) n q)) ((we (σ 7) n (sk (σ 7) n (we (σ 7) n q))) - (sk (σ 7) n (we (σ 7) n q))) fn)) 0 9 (nI (we (σ 7) n (sk (σ 7) n (we (σ 7) n q))))) 0 9 (nI (sk (σ 7) n (we (σ 7) n (sk (σ 7) n (we (σ 7) n q)))))) 0 10 (nI (sk (σ 7) n (we (σ 7) n (sk (σ 7) n (we (σ 7) n q)))))) 3 (96 + 7 * fl + 1) (nmd ((pr_up (pr_up (pr_up (pr_up σ 0 9 (nI (we (σ 7) n q))) 0 9 (nI (sk (σ 7) n (we (σ 7) n q)))) 0 10 (nI (sk (σ 7) n (we (σ 7) n q)))) 3 (96 + 7 * fl + 0) (nmd (σ 3) (σ 7) (sk (σ 7) n (we (σ 7) n q)) ((we (σ 7) n (sk (σ 7) n (we (σ 7) n q))) - (sk (σ 7) n (we (σ 7) n q))) fn)) 3) (σ 7) (sk (σ 7) n (we (σ 7) n (sk (σ 7) n (we (σ 7) n q)))) ((we (σ 7) n (sk (σ 7) n (we (σ 7) n (sk (σ 7) n (we (σ 7) n q))))) - (sk (σ 7) n (we (σ 7) n (sk (σ 7) n (we (σ 7) n q))))) fn)) 0 9 (nI (we (σ 7) n (sk (σ 7) n (we (σ 7) n (sk (σ 7) n (we (σ 7) n q))))))) 0 9 (nI (sk (σ 7) n (we (σ 7) n (sk (σ 7) n (we (σ 7) n (sk (σ 7) n (we (σ 7) n q)))))))) 0 10 (nI (sk (σ 7) n (we (σ 7) n (sk (σ 7) n (we (σ 7) n (sk (σ 7) n (we (σ 7) n q)))))))) 0 9 (nI (nu (σ 7) n (sk (σ 7) n (we (σ 7) n (sk (σ 7) n (we (σ 7) n (sk (σ 7) n (we (σ 7) n q)))))) 0).1)) 3 (96 + 7 * fl + 2) ((nu (σ 7) n (sk (σ 7) n (we (σ 7) n (sk (σ 7) n (we (σ 7) n (sk (σ 7) n (we (σ 7) n q)))))) 0).2.toInt32)) n (nu (σ 7) n (sk (σ 7) n (we (σ 7) n (sk (σ 7) n (we (σ 7) n (sk (σ 7) n (we (σ 7) n q)))))) 0).1 (96 + 7 * fl + 3) (0 : Int32) (1000 : Int32)) else (if (m_rd_r (pr_up (pr_up (pr_up (pr_up (pr_up (pr_up (pr_up (pr_up (pr_up (pr_up (pr_up (pr_up (pr_up (pr_up (pr_up (pr_up (pr_up σ 0 9 (nI (we (σ 7) n q))) 0 9 (nI (sk (σ 7) n (we (σ 7) n q)))) 0 10 (nI (sk (σ 7) n (we (σ 7) n q)))) 3 (96 + 7 * fl + 0) (nmd (σ 3) (σ 7) (sk (σ 7) n (we (σ 7) n q)) ((we (σ 7) n (sk (σ 7) n (we (σ 7) n q))) - (sk (σ 7) n (we (σ 7) n q))) fn)) 0 9 (nI (we (σ 7) n (sk (σ 7) n (we (σ 7) n q))))) 0 9 (nI (sk (σ 7) n (we (σ 7) n (sk (σ 7) n (we (σ 7) n q)))))) 0 10 (nI (sk (σ 7) n (we (σ 7) n (sk (σ 7) n (we (σ 7) n q)))))) 3 (96 + 7 * fl + 1) (nmd ((pr_up (pr_up (pr_up (pr_up σ 0 9 (nI (we (σ 7) n q))) 0 9 (nI (sk (σ 7) n (we (σ 7) n q)))) 0 10 (nI (sk (σ 7) n (we (σ 7) n q)))) 3 (96 + 7 * fl + 0) (nmd (σ 3) (σ 7) (sk (σ 7) n (we (σ 7) n q)) ((we (σ 7) n (sk (σ 7) n (we (σ 7) n q))) - (sk (σ 7) n (we (σ 7) n q))) fn)) 3) (σ 7) (sk (σ 7) n (we (σ 7) n (sk (σ 7) n (we (σ 7) n q)))) ((we (σ 7) n (sk (σ 7) n (we (σ 7) n (sk (σ 7) n (we (σ 7) n q))))) - (sk (σ 7) n (we (σ 7) n (sk (σ 7) n (we (σ 7) n q))))) fn)) 0 9 (nI (we (σ 7) n (sk (σ 7) n (we (σ 7) n (sk (σ 7) n (we (σ 7) n q))))))) 0 9 (nI (sk (σ 7) n (we (σ 7) n (sk (σ 7) n (we (σ 7) n (sk (σ 7) n (we (σ 7) n q)))))))) 0 10 (nI (sk (σ 7) n (we (σ 7) n (sk (σ 7) n (we (σ 7) n (sk (σ 7) n (we (σ 7) n q)))))))) 0 9 (nI (nu (σ 7) n (sk (σ 7) n (we (σ 7) n (sk (σ 7) n (we (σ 7) n (sk (σ 7) n (we (σ 7) n q)))))) 0).1)) 3 (96 + 7 * fl + 2) ((nu (σ 7) n (sk (σ 7) n (we (σ 7) n (sk (σ 7) n (we (σ 7) n (sk (σ 7) n (we (σ 7) n q)))))) 0).2.toInt32)) 0 9 (nI (sk (σ 7) n (nu (σ 7) n (sk (σ 7) n (we (σ 7) n (sk (σ 7) n (we (σ 7) n (sk (σ 7) n (we (σ 7) n q)))))) 0).1))) 0 10 (nI (sk (σ 7) n (nu (σ 7) n (sk (σ 7) n (we (σ 7) n (sk (σ 7) n (we (σ 7) n (sk (σ 7) n (we (σ 7) n q)))))) 0).1))) 0 9 (nI (nu (σ 7) n (sk (σ 7) n (nu (σ 7) n (sk (σ 7) n (we (σ 7) n (sk (σ 7) n (we (σ 7) n (sk (σ 7) n (we (σ 7) n q)))))) 0).1) 0).1)) 3 (96 + 7 * fl + 3) ((nu (σ 7) n (sk (σ 7) n (nu (σ 7) n (sk (σ 7) n (we (σ 7) n (sk (σ 7) n (we (σ 7) n (sk (σ 7) n (we (σ 7) n q)))))) 0).1) 0).2.toInt32)) n (nu (σ 7) n (sk (σ 7) n (nu (σ 7) n (sk (σ 7) n (we (σ 7) n (sk (σ 7) n (we (σ 7) n (sk (σ 7) n (we (σ 7) n q)))))) 0).1) 0).1 (96 + 7 * fl + 4) (1 : Int32) (50 : Int32)) = 0 then (m_rd (pr_up (pr_up (pr_up (pr_up (pr_up (pr_up (pr_up (pr_up (pr_up (pr_up (pr_up (pr_up (pr_up (pr_up (pr_up (pr_up (pr_up σ 0 9 (nI (we (σ 7) n q))) 0 9 (nI (sk (σ 7) n (we (σ 7) n q)))) 0 10 (nI (sk (σ 7) n (we (σ 7) n q)))) 3 (96 + 7 * fl + 0) (nmd (σ 3) (σ 7) (sk (σ 7) n (we (σ 7) n q)) ((we (σ 7) n (sk (σ 7) n (we (σ 7) n q))) - (sk (σ 7) n (we (σ 7) n q))) fn)) 0 9 (nI (we (σ 7) n (sk (σ 7) n (we (σ 7) n q))))) 0 9 (nI (sk (σ 7) n (we (σ 7) n (sk (σ 7) n (we (σ 7) n q)))))) 0 10 (nI (sk (σ 7) n (we (σ 7) n (sk (σ 7) n (we (σ 7) n q)))))) 3 (96 + 7 * fl + 1) (nmd ((pr_up (pr_up (pr_up (pr_up σ 0 9 (nI (we (σ 7) n q))) 0 9 (nI (sk (σ 7) n (we (σ 7) n q)))) 0 10 (nI (sk (σ 7) n (we (σ 7) n q)))) 3 (96 + 7 * fl + 0) (nmd (σ 3) (σ 7) (sk (σ 7) n (we (σ 7) n q)) ((we (σ 7) n (sk (σ 7) n (we (σ 7) n q))) - (sk (σ 7) n (we (σ 7) n q))) fn)) 3) (σ 7) (sk (σ 7) n (we (σ 7) n (sk (σ 7) n (we (σ 7) n q)))) ((we (σ 7) n (sk (σ 7) n (we (σ 7) n (sk (σ 7) n (we (σ 7) n q))))) - (sk (σ 7) n (we (σ 7) n (sk (σ 7) n (we (σ 7) n q))))) fn)) 0 9 (nI (we (σ 7) n (sk (σ 7) n (we (σ 7) n (sk (σ 7) n (we (σ 7) n q))))))) 0 9 (nI (sk (σ 7) n (we (σ 7) n (sk (σ 7) n (we (σ 7) n (sk (σ 7) n (we (σ 7) n q)))))))) 0 10 (nI (sk (σ 7) n (we (σ 7) n (sk (σ 7) n (we (σ 7) n (sk (σ 7) n (we (σ 7) n q)))))))) 0 9 (nI (nu (σ 7) n (sk (σ 7) n (we (σ 7) n (sk (σ 7) n (we (σ 7) n (sk (σ 7) n (we (σ 7) n q)))))) 0).1)) 3 (96 + 7 * fl + 2) ((nu (σ 7) n (sk (σ 7) n (we (σ 7) n (sk (σ 7) n (we (σ 7) n (sk (σ 7) n (we (σ 7) n q)))))) 0).2.toInt32)) 0 9 (nI (sk (σ 7) n (nu (σ 7) n (sk (σ 7) n (we (σ 7) n (sk (σ 7) n (we (σ 7) n (sk (σ 7) n (we (σ 7) n q)))))) 0).1))) 0 10 (nI (sk (σ 7) n (nu (σ 7) n (sk (σ 7) n (we (σ 7) n (sk (σ 7) n (we (σ 7) n (sk (σ 7) n (we (σ 7) n q)))))) 0).1))) 0 9 (nI (nu (σ 7) n (sk (σ 7) n (nu (σ 7) n (sk (σ 7) n (we (σ 7) n (sk (σ 7) n (we (σ 7) n (sk (σ 7) n (we (σ 7) n q)))))) 0).1) 0).1)) 3 (96 + 7 * fl + 3) ((nu (σ 7) n (sk (σ 7) n (nu (σ 7) n (sk (σ 7) n (we (σ 7) n (sk (σ 7) n (we (σ 7) n (sk (σ 7) n (we (σ 7) n q)))))) 0).1) 0).2.toInt32)) n (nu (σ 7) n (sk (σ 7) n (nu (σ 7) n (sk (σ 7) n (we (σ 7) n (sk (σ 7) n (we (σ 7) n (sk (σ 7) n (we (σ 7) n q)))))) 0).1) 0).1 (96 + 7 * fl + 4) (1 : Int32) (50 : Int32)) else (pr_up (pr_up (pr_up (pr_up (pr_up (pr_up (pr_up (pr_up (pr_up (pr_up (pr_up (pr_up (pr_up (pr_up (pr_up (pr_up (pr_up (pr_up (pr_up (pr_up (pr_up (pr_up (pr_up σ 0 9 (nI (we (σ 7) n q))) 0 9 (nI (sk (σ 7) n (we (σ 7) n q)))) 0 10 (nI (sk (σ 7) n (we (σ 7) n q)))) 3 (96 + 7 * fl + 0) (nmd (σ 3) (σ 7) (sk (σ 7) n (we (σ 7) n q)) ((we (σ 7) n (sk (σ 7) n (we (σ 7) n q))) - (sk (σ 7) n (we (σ 7) n q))) fn)) 0 9 (nI (we (σ 7) n (sk (σ 7) n (we (σ 7) n q))))) 0 9 (nI (sk (σ 7) n (we (σ 7) n (sk (σ 7) n (we (σ 7) n q)))))) 0 10 (nI (sk (σ 7) n (we (σ 7) n (sk (σ 7) n (we (σ 7) n q)))))) 3 (96 + 7 * fl + 1) (nmd ((pr_up (pr_up (pr_up (pr_up σ 0 9 (nI (we (σ 7) n q))) 0 9 (nI (sk (σ 7) n (we (σ 7) n q)))) 0 10 (nI (sk (σ 7) n (we (σ 7) n q)))) 3 (96 + 7 * fl + 0) (nmd (σ 3) (σ 7) (sk (σ 7) n (we (σ 7) n q)) ((we (σ 7) n (sk (σ 7) n (we (σ 7) n q))) - (sk (σ 7) n (we (σ 7) n q))) fn)) 3) (σ 7) (sk (σ 7) n (we (σ 7) n (sk (σ 7) n (we (σ 7) n q)))) ((we (σ 7) n (sk (σ 7) n (we (σ 7) n (sk (σ 7) n (we (σ 7) n q))))) - (sk (σ 7) n (we (σ 7) n (sk (σ 7) n (we (σ 7) n q))))) fn)) 0 9 (nI (we (σ 7) n (sk (σ 7) n (we (σ 7) n (sk (σ 7) n (we (σ 7) n q))))))) 0 9 (nI (sk (σ 7) n (we (σ 7) n (sk (σ 7) n (we (σ 7) n (sk (σ 7) n (we (σ 7) n q)))))))) 0 10 (nI (sk (σ 7) n (we (σ 7) n (sk (σ 7) n (we (σ 7) n (sk (σ 7) n (we (σ 7) n q)))))))) 0 9 (nI (nu (σ 7) n (sk (σ 7) n (we (σ 7) n (sk (σ 7) n (we (σ 7) n (sk (σ 7) n (we (σ 7) n q)))))) 0).1)) 3 (96 + 7 * fl + 2) ((nu (σ 7) n (sk (σ 7) n (we (σ 7) n (sk (σ 7) n (we (σ 7) n (sk (σ 7) n (we (σ 7) n q)))))) 0).2.toInt32)) 0 9 (nI (sk (σ 7) n (nu (σ 7) n (sk (σ 7) n (we (σ 7) n (sk (σ 7) n (we (σ 7) n (sk (σ 7) n (we (σ 7) n q)))))) 0).1))) 0 10 (nI (sk (σ 7) n (nu (σ 7) n (sk (σ 7) n (we (σ 7) n (sk (σ 7) n (we (σ 7) n (sk (σ 7) n (we (σ 7) n q)))))) 0).1))) 0 9 (nI (nu (σ 7) n (sk (σ 7) n (nu (σ 7) n (sk (σ 7) n (we (σ 7) n (sk (σ 7) n (we (σ 7) n (sk (σ 7) n (we (σ 7) n q)))))) 0).1) 0).1)) 3 (96 + 7 * fl + 3) ((nu (σ 7) n (sk (σ 7) n (nu (σ 7) n (sk (σ 7) n (we (σ 7) n (sk (σ 7) n (we (σ 7) n (sk (σ 7) n (we (σ 7) n q)))))) 0).1) 0).2.toInt32)) 0 9 (nI (sk (σ 7) n (nu (σ 7) n (sk (σ 7) n (nu (σ 7) n (sk (σ 7) n (we (σ 7) n (sk (σ 7) n (we (σ 7) n (sk (σ 7) n (we (σ 7) n q)))))) 0).1) 0).1))) 0 10 (nI (sk (σ 7) n (nu (σ 7) n (sk (σ 7) n (nu (σ 7) n (sk (σ 7) n (we (σ 7) n (sk (σ 7) n (we (σ 7) n (sk (σ 7) n (we (σ 7) n q)))))) 0).1) 0).1))) 0 9 (nI (nu (σ 7) n (sk (σ 7) n (nu (σ 7) n (sk (σ 7) n (nu (σ 7) n (sk (σ 7) n (we (σ 7) n (sk (σ 7) n (we (σ 7) n (sk (σ 7) n (we (σ 7) n q)))))) 0).1) 0).1) 0).1)) 3 (96 + 7 * fl + 4) ((nu (σ 7) n (sk (σ 7) n (nu (σ 7) n (sk (σ 7) n (nu (σ 7) n (sk (σ 7) n (we (σ 7) n (sk (σ 7) n (we (σ 7) n (sk (σ 7) n (we (σ 7) n q)))))) 0).1) 0).1) 0).2.toInt32)) 3 (96 + 7 * fl + 5) (1 : Int32)) 3 7 (nI (fl + 1)))))))))
set_option maxRecDepth 100000 in
set_option maxHeartbeats 400000 in
theorem c_m_rl {g : pr_C} {l : Launch} (hl : l.stackTraces = false) {T : pr_T} {I : pr_I} {L : pr_L} {m : Nat} {σ : pr_I} {n : Nat} {q : Nat} {fn : Nat} {fl : Nat} (hm : pr_Mo T m) (hn : σ 0 8 = nI n) (hn7 : n ≤ 700) (hq : σ 0 10 = nI q) (hqn : q ≤ n) (h12 : σ 0 12 = 0) (hfn : σ 3 6 = nI fn) (hfn12 : fn ≤ 12) (hfl : σ 3 7 = nI fl) (hfl24 : fl ≤ 24) : pr_M g l 9 0 0 mX8_readLink [.ref m] T (rg_put I m 16 σ) L (pr_R (some (.int (m_rl_r σ n q fn fl))) T (rg_put I m 16 (m_rl σ n q fn fl)) L) pr_no := by
  refine pr_ofG (by decide) rfl hl (Nat.le_of_ble_eq_true rfl) (fun X hA hX hXn hXt => ?_)
  subst hX
  show pr_G g X mX8_readLink.2.2.1 _ 0 0 0 [.ref m, .null] [] T (rg_put I m 16 σ) L
  have hw0 := we_le (b := σ 7) hqn
  refine pr_aload_n hA dX8_readLink_0 rfl ?_
  refine pr_getR hA f_X8_16 rfl (mo_k0 hm) (mo_f0_2 hm) dX8_readLink_1 ?_
  refine pr_bipush hA (nI 7) dX8_readLink_4 (by decide) ?_
  refine pr_ialdM (v := (nI fl)) hA (mo_k3 hm) (by omega) (by omega) ((rg_val (by decide)).trans hfl) dX8_readLink_6 ?_
  refine pr_bipush hA (nI 24) dX8_readLink_7 (by decide) ?_
  refine pr_icmp_ne hA 18 dX8_readLink_9 (by decide) (fun c_9 => ?_) (fun c_9 => ?_)
  · have n_9 : ¬ fl = 24 := fun q => c_9 ((nI_eq (by omega) (by omega)).mpr q)
    refine pr_aload_n hA dX8_readLink_18 rfl ?_
    refine pr_callVi hA [] (c_passesE (m := m) (σ := σ) (n := n) (q := q) (b := (σ 7)) (pr_hl hA) hm hn (by omega) hq (by omega) rfl) v_X8_139 (mo_k0 hm) (by decide) rfl rfl rfl (by decide) (Nat.zero_le _) (Nat.zero_le _) rfl (Nat.le_of_ble_eq_true rfl) dX8_readLink_19 ?_
    refine pr_pop hA dX8_readLink_22 rfl ?_
    refine pr_bipush hA (nI 96) dX8_readLink_23 (by decide) ?_
    refine pr_bipush hA (nI 7) dX8_readLink_25 (by decide) ?_
    refine pr_aload_n hA dX8_readLink_27 rfl ?_
    refine pr_getR hA f_X8_16 rfl (mo_k0 hm) (mo_f0_2 hm) dX8_readLink_28 ?_
    refine pr_bipush hA (nI 7) dX8_readLink_31 (by decide) ?_
    refine pr_ialdM (v := (nI fl)) hA (mo_k3 hm) (by omega) (by omega) ((rg_val (by decide)).trans ((pr_upv (by decide)).trans hfl)) dX8_readLink_33 ?_
    refine pr_imul hA dX8_readLink_34 ?_
    refine pr_iadd hA dX8_readLink_35 ?_
    rw [show ((nI 96) + ((nI 7) * (nI fl))) = (nI (96 + 7 * fl)) from (nI_lin2 96 7 fl)]
    refine pr_istore_n (ls' := [_, _]) hA dX8_readLink_36 (by decide) rfl ?_
    refine pr_aload_n hA dX8_readLink_37 rfl ?_
    refine pr_iload_n hA dX8_readLink_38 rfl ?_
    refine pr_iconst hA (nI 0) dX8_readLink_39 (by decide) ?_
    refine pr_iadd hA dX8_readLink_40 ?_
    rw [show ((nI (96 + 7 * fl)) + (nI 0)) = (nI (96 + 7 * fl + 0)) from (nI_add _ _)]
    refine pr_iconst hA ((-1)) dX8_readLink_41 (by decide) ?_
    refine pr_callVi hA [.int (nI (96 + 7 * fl + 0)), .int ((-1) : Int32)] (c_m_re (m := m) (σ := (pr_up σ 0 9 (nI (we (σ 7) n q)))) (n := n) (p := (we (σ 7) n q)) (fn := fn) (pl := (96 + 7 * fl + 0)) (y := ((-1) : Int32)) (pr_hl hA) hm ((pr_upk (by decide)).trans hn) (by omega) pr_upe (by omega) ((pr_upk (by decide)).trans h12) ((pr_upv (by decide)).trans hfn) (by omega) (by omega)) v_X8_146 (mo_k0 hm) (by decide) rfl rfl rfl (by decide) (Nat.zero_le _) (Nat.zero_le _) rfl (Nat.le_of_ble_eq_true rfl) dX8_readLink_42 ?_
    refine pr_if_eq hA 66 dX8_readLink_45 (by decide) (fun c_45 => ?_) (fun c_45 => ?_)
    · refine pr_iconst hA (0) dX8_readLink_66 (by decide) ?_
      exact pr_ireturn hA rfl (pr_nb (by repeat (first | exact Or.inl rfl | exact Or.inr rfl | refine nb_ite ?_ ?_))) (Nat.zero_le _) (Nat.zero_le _) dX8_readLink_67 ⟨(by simp only [m_rl_r, if_neg c_9, if_pos c_45]), rfl, (by simp only [m_rl, if_neg c_9, if_pos c_45]), rfl⟩
    · obtain ⟨e_45, a_45, b_45, d_45⟩ := m_re_1 c_45
      rw [e_45]
      have hs_45 := sk_le (b := σ 7) (n := n) (p := (we (σ 7) n q)) (by omega)
      have hw_45 := we_le (b := σ 7) (n := n) (p := (sk (σ 7) n (we (σ 7) n q))) hs_45.2
      refine pr_aload_n hA dX8_readLink_48 rfl ?_
      refine pr_iload_n hA dX8_readLink_49 rfl ?_
      refine pr_iconst hA (nI 1) dX8_readLink_50 (by decide) ?_
      refine pr_iadd hA dX8_readLink_51 ?_
      rw [show ((nI (96 + 7 * fl)) + (nI 1)) = (nI (96 + 7 * fl + 1)) from (nI_add _ _)]
      refine pr_aload_n hA dX8_readLink_52 rfl ?_
      refine pr_getR hA f_X8_16 rfl (mo_k0 hm) (mo_f0_2 hm) dX8_readLink_53 ?_
      refine pr_iload_n hA dX8_readLink_56 rfl ?_
      refine pr_iconst hA (nI 0) dX8_readLink_57 (by decide) ?_
      refine pr_iadd hA dX8_readLink_58 ?_
      rw [show ((nI (96 + 7 * fl)) + (nI 0)) = (nI (96 + 7 * fl + 0)) from (nI_add _ _)]
      refine pr_ialdM (v := (nmd (σ 3) (σ 7) (sk (σ 7) n (we (σ 7) n q)) ((we (σ 7) n (sk (σ 7) n (we (σ 7) n q))) - (sk (σ 7) n (we (σ 7) n q))) fn)) hA (mo_k3 hm) (by omega) (by omega) ((rg_val (by decide)).trans ((pr_upv (by decide)).trans pr_upe)) dX8_readLink_59 ?_
      refine pr_callVi hA [.int (nI (96 + 7 * fl + 1)), .int (nmd (σ 3) (σ 7) (sk (σ 7) n (we (σ 7) n q)) ((we (σ 7) n (sk (σ 7) n (we (σ 7) n q))) - (sk (σ 7) n (we (σ 7) n q))) fn)] (c_m_re (m := m) (σ := (pr_up (pr_up (pr_up (pr_up (pr_up σ 0 9 (nI (we (σ 7) n q))) 0 9 (nI (sk (σ 7) n (we (σ 7) n q)))) 0 10 (nI (sk (σ 7) n (we (σ 7) n q)))) 3 (96 + 7 * fl + 0) (nmd (σ 3) (σ 7) (sk (σ 7) n (we (σ 7) n q)) ((we (σ 7) n (sk (σ 7) n (we (σ 7) n q))) - (sk (σ 7) n (we (σ 7) n q))) fn)) 0 9 (nI (we (σ 7) n (sk (σ 7) n (we (σ 7) n q)))))) (n := n) (p := (we (σ 7) n (sk (σ 7) n (we (σ 7) n q)))) (fn := fn) (pl := (96 + 7 * fl + 1)) (y := (nmd (σ 3) (σ 7) (sk (σ 7) n (we (σ 7) n q)) ((we (σ 7) n (sk (σ 7) n (we (σ 7) n q))) - (sk (σ 7) n (we (σ 7) n q))) fn)) (pr_hl hA) hm ((pr_upk (by decide)).trans ((pr_upv (by decide)).trans ((pr_upk (by decide)).trans ((pr_upk (by decide)).trans ((pr_upk (by decide)).trans hn))))) (by omega) pr_upe (by omega) ((pr_upk (by decide)).trans ((pr_upv (by decide)).trans ((pr_upk (by decide)).trans ((pr_upk (by decide)).trans ((pr_upk (by decide)).trans h12))))) ((pr_upv (by decide)).trans ((pr_upk (by omega)).trans ((pr_upv (by decide)).trans ((pr_upv (by decide)).trans ((pr_upv (by decide)).trans hfn))))) (by omega) (by omega)) v_X8_146 (mo_k0 hm) (by decide) rfl rfl rfl (by decide) (Nat.zero_le _) (Nat.zero_le _) rfl (Nat.le_of_ble_eq_true rfl) dX8_readLink_60 ?_
      refine pr_if_ne hA 68 dX8_readLink_63 (by decide) (fun c_63 => ?_) (fun c_63 => ?_)
      · obtain ⟨e_63, a_63, b_63, d_63⟩ := m_re_1 c_63
        rw [e_63]
        have hs_63 := sk_le (b := σ 7) (n := n) (p := (we (σ 7) n (sk (σ 7) n (we (σ 7) n q)))) (by omega)
        have hw_63 := we_le (b := σ 7) (n := n) (p := (sk (σ 7) n (we (σ 7) n (sk (σ 7) n (we (σ 7) n q))))) hs_63.2
        refine pr_aload_n hA dX8_readLink_68 rfl ?_
        refine pr_iload_n hA dX8_readLink_69 rfl ?_
        refine pr_iconst hA (nI 2) dX8_readLink_70 (by decide) ?_
        refine pr_iadd hA dX8_readLink_71 ?_
        rw [show ((nI (96 + 7 * fl)) + (nI 2)) = (nI (96 + 7 * fl + 2)) from (nI_add _ _)]
        refine pr_iconst hA (0) dX8_readLink_72 (by decide) ?_
        refine pr_sipush hA (1000) dX8_readLink_73 (by decide) ?_
        refine pr_callVi hA [.int (nI (96 + 7 * fl + 2)), .int (0 : Int32), .int (1000 : Int32)] (c_m_rd (m := m) (σ := (pr_up (pr_up (pr_up (pr_up (pr_up (pr_up (pr_up (pr_up (pr_up σ 0 9 (nI (we (σ 7) n q))) 0 9 (nI (sk (σ 7) n (we (σ 7) n q)))) 0 10 (nI (sk (σ 7) n (we (σ 7) n q)))) 3 (96 + 7 * fl + 0) (nmd (σ 3) (σ 7) (sk (σ 7) n (we (σ 7) n q)) ((we (σ 7) n (sk (σ 7) n (we (σ 7) n q))) - (sk (σ 7) n (we (σ 7) n q))) fn)) 0 9 (nI (we (σ 7) n (sk (σ 7) n (we (σ 7) n q))))) 0 9 (nI (sk (σ 7) n (we (σ 7) n (sk (σ 7) n (we (σ 7) n q)))))) 0 10 (nI (sk (σ 7) n (we (σ 7) n (sk (σ 7) n (we (σ 7) n q)))))) 3 (96 + 7 * fl + 1) (nmd ((pr_up (pr_up (pr_up (pr_up σ 0 9 (nI (we (σ 7) n q))) 0 9 (nI (sk (σ 7) n (we (σ 7) n q)))) 0 10 (nI (sk (σ 7) n (we (σ 7) n q)))) 3 (96 + 7 * fl + 0) (nmd (σ 3) (σ 7) (sk (σ 7) n (we (σ 7) n q)) ((we (σ 7) n (sk (σ 7) n (we (σ 7) n q))) - (sk (σ 7) n (we (σ 7) n q))) fn)) 3) (σ 7) (sk (σ 7) n (we (σ 7) n (sk (σ 7) n (we (σ 7) n q)))) ((we (σ 7) n (sk (σ 7) n (we (σ 7) n (sk (σ 7) n (we (σ 7) n q))))) - (sk (σ 7) n (we (σ 7) n (sk (σ 7) n (we (σ 7) n q))))) fn)) 0 9 (nI (we (σ 7) n (sk (σ 7) n (we (σ 7) n (sk (σ 7) n (we (σ 7) n q)))))))) (n := n) (p := (we (σ 7) n (sk (σ 7) n (we (σ 7) n (sk (σ 7) n (we (σ 7) n q)))))) (pl := (96 + 7 * fl + 2)) (lo := (0 : Int32)) (hi := (1000 : Int32)) (pr_hl hA) hm ((pr_upk (by decide)).trans ((pr_upv (by decide)).trans ((pr_upk (by decide)).trans ((pr_upk (by decide)).trans ((pr_upk (by decide)).trans ((pr_upv (by decide)).trans ((pr_upk (by decide)).trans ((pr_upk (by decide)).trans ((pr_upk (by decide)).trans hn))))))))) (by omega) pr_upe (by omega) ((pr_upk (by decide)).trans ((pr_upv (by decide)).trans ((pr_upk (by decide)).trans ((pr_upk (by decide)).trans ((pr_upk (by decide)).trans ((pr_upv (by decide)).trans ((pr_upk (by decide)).trans ((pr_upk (by decide)).trans ((pr_upk (by decide)).trans h12))))))))) (by omega)) v_X8_150 (mo_k0 hm) (by decide) rfl rfl rfl (by decide) (Nat.zero_le _) (Nat.zero_le _) rfl (Nat.le_of_ble_eq_true rfl) dX8_readLink_76 ?_
        refine pr_if_eq hA 109 dX8_readLink_79 (by decide) (fun c_79 => ?_) (fun c_79 => ?_)
        · refine pr_iconst hA (0) dX8_readLink_109 (by decide) ?_
          exact pr_ireturn hA rfl (pr_nb (by repeat (first | exact Or.inl rfl | exact Or.inr rfl | refine nb_ite ?_ ?_))) (Nat.zero_le _) (Nat.zero_le _) dX8_readLink_110 ⟨(by simp only [m_rl_r, if_neg c_9, if_neg c_45, if_neg c_63, if_pos c_79]), rfl, (by simp only [m_rl, if_neg c_9, if_neg c_45, if_neg c_63, if_pos c_79]), rfl⟩
        · obtain ⟨e_79, a_79, b_79⟩ := m_rd_1 c_79
          rw [e_79]
          have hs_79 := sk_le (b := σ 7) (n := n) (p := (we (σ 7) n (sk (σ 7) n (we (σ 7) n (sk (σ 7) n (we (σ 7) n q)))))) (by omega)
          have hw_79 := nu_le1 (b := σ 7) (n := n) (p := (sk (σ 7) n (we (σ 7) n (sk (σ 7) n (we (σ 7) n (sk (σ 7) n (we (σ 7) n q))))))) (v := 0) hs_79.2
          refine pr_aload_n hA dX8_readLink_82 rfl ?_
          refine pr_iload_n hA dX8_readLink_83 rfl ?_
          refine pr_iconst hA (nI 3) dX8_readLink_84 (by decide) ?_
          refine pr_iadd hA dX8_readLink_85 ?_
          rw [show ((nI (96 + 7 * fl)) + (nI 3)) = (nI (96 + 7 * fl + 3)) from (nI_add _ _)]
          refine pr_iconst hA (0) dX8_readLink_86 (by decide) ?_
          refine pr_sipush hA (1000) dX8_readLink_87 (by decide) ?_
          refine pr_callVi hA [.int (nI (96 + 7 * fl + 3)), .int (0 : Int32), .int (1000 : Int32)] (c_m_rd (m := m) (σ := (pr_up (pr_up (pr_up (pr_up (pr_up (pr_up (pr_up (pr_up (pr_up (pr_up (pr_up (pr_up (pr_up σ 0 9 (nI (we (σ 7) n q))) 0 9 (nI (sk (σ 7) n (we (σ 7) n q)))) 0 10 (nI (sk (σ 7) n (we (σ 7) n q)))) 3 (96 + 7 * fl + 0) (nmd (σ 3) (σ 7) (sk (σ 7) n (we (σ 7) n q)) ((we (σ 7) n (sk (σ 7) n (we (σ 7) n q))) - (sk (σ 7) n (we (σ 7) n q))) fn)) 0 9 (nI (we (σ 7) n (sk (σ 7) n (we (σ 7) n q))))) 0 9 (nI (sk (σ 7) n (we (σ 7) n (sk (σ 7) n (we (σ 7) n q)))))) 0 10 (nI (sk (σ 7) n (we (σ 7) n (sk (σ 7) n (we (σ 7) n q)))))) 3 (96 + 7 * fl + 1) (nmd ((pr_up (pr_up (pr_up (pr_up σ 0 9 (nI (we (σ 7) n q))) 0 9 (nI (sk (σ 7) n (we (σ 7) n q)))) 0 10 (nI (sk (σ 7) n (we (σ 7) n q)))) 3 (96 + 7 * fl + 0) (nmd (σ 3) (σ 7) (sk (σ 7) n (we (σ 7) n q)) ((we (σ 7) n (sk (σ 7) n (we (σ 7) n q))) - (sk (σ 7) n (we (σ 7) n q))) fn)) 3) (σ 7) (sk (σ 7) n (we (σ 7) n (sk (σ 7) n (we (σ 7) n q)))) ((we (σ 7) n (sk (σ 7) n (we (σ 7) n (sk (σ 7) n (we (σ 7) n q))))) - (sk (σ 7) n (we (σ 7) n (sk (σ 7) n (we (σ 7) n q))))) fn)) 0 9 (nI (we (σ 7) n (sk (σ 7) n (we (σ 7) n (sk (σ 7) n (we (σ 7) n q))))))) 0 9 (nI (sk (σ 7) n (we (σ 7) n (sk (σ 7) n (we (σ 7) n (sk (σ 7) n (we (σ 7) n q)))))))) 0 10 (nI (sk (σ 7) n (we (σ 7) n (sk (σ 7) n (we (σ 7) n (sk (σ 7) n (we (σ 7) n q)))))))) 0 9 (nI (nu (σ 7) n (sk (σ 7) n (we (σ 7) n (sk (σ 7) n (we (σ 7) n (sk (σ 7) n (we (σ 7) n q)))))) 0).1)) 3 (96 + 7 * fl + 2) ((nu (σ 7) n (sk (σ 7) n (we (σ 7) n (sk (σ 7) n (we (σ 7) n (sk (σ 7) n (we (σ 7) n q)))))) 0).2.toInt32))) (n := n) (p := (nu (σ 7) n (sk (σ 7) n (we (σ 7) n (sk (σ 7) n (we (σ 7) n (sk (σ 7) n (we (σ 7) n q)))))) 0).1) (pl := (96 + 7 * fl + 3)) (lo := (0 : Int32)) (hi := (1000 : Int32)) (pr_hl hA) hm ((pr_upv (by decide)).trans ((pr_upk (by decide)).trans ((pr_upk (by decide)).trans ((pr_upk (by decide)).trans ((pr_upk (by decide)).trans ((pr_upv (by decide)).trans ((pr_upk (by decide)).trans ((pr_upk (by decide)).trans ((pr_upk (by decide)).trans ((pr_upv (by decide)).trans ((pr_upk (by decide)).trans ((pr_upk (by decide)).trans ((pr_upk (by decide)).trans hn))))))))))))) (by omega) ((pr_upv (by decide)).trans pr_upe) (by omega) ((pr_upv (by decide)).trans ((pr_upk (by decide)).trans ((pr_upk (by decide)).trans ((pr_upk (by decide)).trans ((pr_upk (by decide)).trans ((pr_upv (by decide)).trans ((pr_upk (by decide)).trans ((pr_upk (by decide)).trans ((pr_upk (by decide)).trans ((pr_upv (by decide)).trans ((pr_upk (by decide)).trans ((pr_upk (by decide)).trans ((pr_upk (by decide)).trans h12))))))))))))) (by omega)) v_X8_150 (mo_k0 hm) (by decide) rfl rfl rfl (by decide) (Nat.zero_le _) (Nat.zero_le _) rfl (Nat.le_of_ble_eq_true rfl) dX8_readLink_90 ?_
          refine pr_if_eq hA 109 dX8_readLink_93 (by decide) (fun c_93 => ?_) (fun c_93 => ?_)
          · refine pr_iconst hA (0) dX8_readLink_109 (by decide) ?_
            exact pr_ireturn hA rfl (pr_nb (by repeat (first | exact Or.inl rfl | exact Or.inr rfl | refine nb_ite ?_ ?_))) (Nat.zero_le _) (Nat.zero_le _) dX8_readLink_110 ⟨(by simp only [m_rl_r, if_neg c_9, if_neg c_45, if_neg c_63, if_neg c_79, if_pos c_93]), rfl, (by simp only [m_rl, if_neg c_9, if_neg c_45, if_neg c_63, if_neg c_79, if_pos c_93]), rfl⟩
          · obtain ⟨e_93, a_93, b_93⟩ := m_rd_1 c_93
            rw [e_93]
            have hs_93 := sk_le (b := σ 7) (n := n) (p := (nu (σ 7) n (sk (σ 7) n (we (σ 7) n (sk (σ 7) n (we (σ 7) n (sk (σ 7) n (we (σ 7) n q)))))) 0).1) (by omega)
            have hw_93 := nu_le1 (b := σ 7) (n := n) (p := (sk (σ 7) n (nu (σ 7) n (sk (σ 7) n (we (σ 7) n (sk (σ 7) n (we (σ 7) n (sk (σ 7) n (we (σ 7) n q)))))) 0).1)) (v := 0) hs_93.2
            refine pr_aload_n hA dX8_readLink_96 rfl ?_
            refine pr_iload_n hA dX8_readLink_97 rfl ?_
            refine pr_iconst hA (nI 4) dX8_readLink_98 (by decide) ?_
            refine pr_iadd hA dX8_readLink_99 ?_
            rw [show ((nI (96 + 7 * fl)) + (nI 4)) = (nI (96 + 7 * fl + 4)) from (nI_add _ _)]
            refine pr_iconst hA (1) dX8_readLink_100 (by decide) ?_
            refine pr_bipush hA (50) dX8_readLink_101 (by decide) ?_
            refine pr_callVi hA [.int (nI (96 + 7 * fl + 4)), .int (1 : Int32), .int (50 : Int32)] (c_m_rd (m := m) (σ := (pr_up (pr_up (pr_up (pr_up (pr_up (pr_up (pr_up (pr_up (pr_up (pr_up (pr_up (pr_up (pr_up (pr_up (pr_up (pr_up (pr_up σ 0 9 (nI (we (σ 7) n q))) 0 9 (nI (sk (σ 7) n (we (σ 7) n q)))) 0 10 (nI (sk (σ 7) n (we (σ 7) n q)))) 3 (96 + 7 * fl + 0) (nmd (σ 3) (σ 7) (sk (σ 7) n (we (σ 7) n q)) ((we (σ 7) n (sk (σ 7) n (we (σ 7) n q))) - (sk (σ 7) n (we (σ 7) n q))) fn)) 0 9 (nI (we (σ 7) n (sk (σ 7) n (we (σ 7) n q))))) 0 9 (nI (sk (σ 7) n (we (σ 7) n (sk (σ 7) n (we (σ 7) n q)))))) 0 10 (nI (sk (σ 7) n (we (σ 7) n (sk (σ 7) n (we (σ 7) n q)))))) 3 (96 + 7 * fl + 1) (nmd ((pr_up (pr_up (pr_up (pr_up σ 0 9 (nI (we (σ 7) n q))) 0 9 (nI (sk (σ 7) n (we (σ 7) n q)))) 0 10 (nI (sk (σ 7) n (we (σ 7) n q)))) 3 (96 + 7 * fl + 0) (nmd (σ 3) (σ 7) (sk (σ 7) n (we (σ 7) n q)) ((we (σ 7) n (sk (σ 7) n (we (σ 7) n q))) - (sk (σ 7) n (we (σ 7) n q))) fn)) 3) (σ 7) (sk (σ 7) n (we (σ 7) n (sk (σ 7) n (we (σ 7) n q)))) ((we (σ 7) n (sk (σ 7) n (we (σ 7) n (sk (σ 7) n (we (σ 7) n q))))) - (sk (σ 7) n (we (σ 7) n (sk (σ 7) n (we (σ 7) n q))))) fn)) 0 9 (nI (we (σ 7) n (sk (σ 7) n (we (σ 7) n (sk (σ 7) n (we (σ 7) n q))))))) 0 9 (nI (sk (σ 7) n (we (σ 7) n (sk (σ 7) n (we (σ 7) n (sk (σ 7) n (we (σ 7) n q)))))))) 0 10 (nI (sk (σ 7) n (we (σ 7) n (sk (σ 7) n (we (σ 7) n (sk (σ 7) n (we (σ 7) n q)))))))) 0 9 (nI (nu (σ 7) n (sk (σ 7) n (we (σ 7) n (sk (σ 7) n (we (σ 7) n (sk (σ 7) n (we (σ 7) n q)))))) 0).1)) 3 (96 + 7 * fl + 2) ((nu (σ 7) n (sk (σ 7) n (we (σ 7) n (sk (σ 7) n (we (σ 7) n (sk (σ 7) n (we (σ 7) n q)))))) 0).2.toInt32)) 0 9 (nI (sk (σ 7) n (nu (σ 7) n (sk (σ 7) n (we (σ 7) n (sk (σ 7) n (we (σ 7) n (sk (σ 7) n (we (σ 7) n q)))))) 0).1))) 0 10 (nI (sk (σ 7) n (nu (σ 7) n (sk (σ 7) n (we (σ 7) n (sk (σ 7) n (we (σ 7) n (sk (σ 7) n (we (σ 7) n q)))))) 0).1))) 0 9 (nI (nu (σ 7) n (sk (σ 7) n (nu (σ 7) n (sk (σ 7) n (we (σ 7) n (sk (σ 7) n (we (σ 7) n (sk (σ 7) n (we (σ 7) n q)))))) 0).1) 0).1)) 3 (96 + 7 * fl + 3) ((nu (σ 7) n (sk (σ 7) n (nu (σ 7) n (sk (σ 7) n (we (σ 7) n (sk (σ 7) n (we (σ 7) n (sk (σ 7) n (we (σ 7) n q)))))) 0).1) 0).2.toInt32))) (n := n) (p := (nu (σ 7) n (sk (σ 7) n (nu (σ 7) n (sk (σ 7) n (we (σ 7) n (sk (σ 7) n (we (σ 7) n (sk (σ 7) n (we (σ 7) n q)))))) 0).1) 0).1) (pl := (96 + 7 * fl + 4)) (lo := (1 : Int32)) (hi := (50 : Int32)) (pr_hl hA) hm ((pr_upv (by decide)).trans ((pr_upk (by decide)).trans ((pr_upk (by decide)).trans ((pr_upk (by decide)).trans ((pr_upv (by decide)).trans ((pr_upk (by decide)).trans ((pr_upk (by decide)).trans ((pr_upk (by decide)).trans ((pr_upk (by decide)).trans ((pr_upv (by decide)).trans ((pr_upk (by decide)).trans ((pr_upk (by decide)).trans ((pr_upk (by decide)).trans ((pr_upv (by decide)).trans ((pr_upk (by decide)).trans ((pr_upk (by decide)).trans ((pr_upk (by decide)).trans hn))))))))))))))))) (by omega) ((pr_upv (by decide)).trans pr_upe) (by omega) ((pr_upv (by decide)).trans ((pr_upk (by decide)).trans ((pr_upk (by decide)).trans ((pr_upk (by decide)).trans ((pr_upv (by decide)).trans ((pr_upk (by decide)).trans ((pr_upk (by decide)).trans ((pr_upk (by decide)).trans ((pr_upk (by decide)).trans ((pr_upv (by decide)).trans ((pr_upk (by decide)).trans ((pr_upk (by decide)).trans ((pr_upk (by decide)).trans ((pr_upv (by decide)).trans ((pr_upk (by decide)).trans ((pr_upk (by decide)).trans ((pr_upk (by decide)).trans h12))))))))))))))))) (by omega)) v_X8_150 (mo_k0 hm) (by decide) rfl rfl rfl (by decide) (Nat.zero_le _) (Nat.zero_le _) rfl (Nat.le_of_ble_eq_true rfl) dX8_readLink_103 ?_
            refine pr_if_ne hA 111 dX8_readLink_106 (by decide) (fun c_106 => ?_) (fun c_106 => ?_)
            · obtain ⟨e_106, a_106, b_106⟩ := m_rd_1 c_106
              rw [e_106]
              have hs_106 := sk_le (b := σ 7) (n := n) (p := (nu (σ 7) n (sk (σ 7) n (nu (σ 7) n (sk (σ 7) n (we (σ 7) n (sk (σ 7) n (we (σ 7) n (sk (σ 7) n (we (σ 7) n q)))))) 0).1) 0).1) (by omega)
              have hw_106 := nu_le1 (b := σ 7) (n := n) (p := (sk (σ 7) n (nu (σ 7) n (sk (σ 7) n (nu (σ 7) n (sk (σ 7) n (we (σ 7) n (sk (σ 7) n (we (σ 7) n (sk (σ 7) n (we (σ 7) n q)))))) 0).1) 0).1)) (v := 0) hs_106.2
              refine pr_aload_n hA dX8_readLink_111 rfl ?_
              refine pr_getR hA f_X8_16 rfl (mo_k0 hm) (mo_f0_2 hm) dX8_readLink_112 ?_
              refine pr_iload_n hA dX8_readLink_115 rfl ?_
              refine pr_iconst hA (nI 5) dX8_readLink_116 (by decide) ?_
              refine pr_iadd hA dX8_readLink_117 ?_
              rw [show ((nI (96 + 7 * fl)) + (nI 5)) = (nI (96 + 7 * fl + 5)) from (nI_add _ _)]
              refine pr_iconst hA (1) dX8_readLink_118 (by decide) ?_
              refine pr_iastM (I' := (rg_put I m 16 (pr_up (pr_up (pr_up (pr_up (pr_up (pr_up (pr_up (pr_up (pr_up (pr_up (pr_up (pr_up (pr_up (pr_up (pr_up (pr_up (pr_up (pr_up (pr_up (pr_up (pr_up (pr_up σ 0 9 (nI (we (σ 7) n q))) 0 9 (nI (sk (σ 7) n (we (σ 7) n q)))) 0 10 (nI (sk (σ 7) n (we (σ 7) n q)))) 3 (96 + 7 * fl + 0) (nmd (σ 3) (σ 7) (sk (σ 7) n (we (σ 7) n q)) ((we (σ 7) n (sk (σ 7) n (we (σ 7) n q))) - (sk (σ 7) n (we (σ 7) n q))) fn)) 0 9 (nI (we (σ 7) n (sk (σ 7) n (we (σ 7) n q))))) 0 9 (nI (sk (σ 7) n (we (σ 7) n (sk (σ 7) n (we (σ 7) n q)))))) 0 10 (nI (sk (σ 7) n (we (σ 7) n (sk (σ 7) n (we (σ 7) n q)))))) 3 (96 + 7 * fl + 1) (nmd ((pr_up (pr_up (pr_up (pr_up σ 0 9 (nI (we (σ 7) n q))) 0 9 (nI (sk (σ 7) n (we (σ 7) n q)))) 0 10 (nI (sk (σ 7) n (we (σ 7) n q)))) 3 (96 + 7 * fl + 0) (nmd (σ 3) (σ 7) (sk (σ 7) n (we (σ 7) n q)) ((we (σ 7) n (sk (σ 7) n (we (σ 7) n q))) - (sk (σ 7) n (we (σ 7) n q))) fn)) 3) (σ 7) (sk (σ 7) n (we (σ 7) n (sk (σ 7) n (we (σ 7) n q)))) ((we (σ 7) n (sk (σ 7) n (we (σ 7) n (sk (σ 7) n (we (σ 7) n q))))) - (sk (σ 7) n (we (σ 7) n (sk (σ 7) n (we (σ 7) n q))))) fn)) 0 9 (nI (we (σ 7) n (sk (σ 7) n (we (σ 7) n (sk (σ 7) n (we (σ 7) n q))))))) 0 9 (nI (sk (σ 7) n (we (σ 7) n (sk (σ 7) n (we (σ 7) n (sk (σ 7) n (we (σ 7) n q)))))))) 0 10 (nI (sk (σ 7) n (we (σ 7) n (sk (σ 7) n (we (σ 7) n (sk (σ 7) n (we (σ 7) n q)))))))) 0 9 (nI (nu (σ 7) n (sk (σ 7) n (we (σ 7) n (sk (σ 7) n (we (σ 7) n (sk (σ 7) n (we (σ 7) n q)))))) 0).1)) 3 (96 + 7 * fl + 2) ((nu (σ 7) n (sk (σ 7) n (we (σ 7) n (sk (σ 7) n (we (σ 7) n (sk (σ 7) n (we (σ 7) n q)))))) 0).2.toInt32)) 0 9 (nI (sk (σ 7) n (nu (σ 7) n (sk (σ 7) n (we (σ 7) n (sk (σ 7) n (we (σ 7) n (sk (σ 7) n (we (σ 7) n q)))))) 0).1))) 0 10 (nI (sk (σ 7) n (nu (σ 7) n (sk (σ 7) n (we (σ 7) n (sk (σ 7) n (we (σ 7) n (sk (σ 7) n (we (σ 7) n q)))))) 0).1))) 0 9 (nI (nu (σ 7) n (sk (σ 7) n (nu (σ 7) n (sk (σ 7) n (we (σ 7) n (sk (σ 7) n (we (σ 7) n (sk (σ 7) n (we (σ 7) n q)))))) 0).1) 0).1)) 3 (96 + 7 * fl + 3) ((nu (σ 7) n (sk (σ 7) n (nu (σ 7) n (sk (σ 7) n (we (σ 7) n (sk (σ 7) n (we (σ 7) n (sk (σ 7) n (we (σ 7) n q)))))) 0).1) 0).2.toInt32)) 0 9 (nI (sk (σ 7) n (nu (σ 7) n (sk (σ 7) n (nu (σ 7) n (sk (σ 7) n (we (σ 7) n (sk (σ 7) n (we (σ 7) n (sk (σ 7) n (we (σ 7) n q)))))) 0).1) 0).1))) 0 10 (nI (sk (σ 7) n (nu (σ 7) n (sk (σ 7) n (nu (σ 7) n (sk (σ 7) n (we (σ 7) n (sk (σ 7) n (we (σ 7) n (sk (σ 7) n (we (σ 7) n q)))))) 0).1) 0).1))) 0 9 (nI (nu (σ 7) n (sk (σ 7) n (nu (σ 7) n (sk (σ 7) n (nu (σ 7) n (sk (σ 7) n (we (σ 7) n (sk (σ 7) n (we (σ 7) n (sk (σ 7) n (we (σ 7) n q)))))) 0).1) 0).1) 0).1)) 3 (96 + 7 * fl + 4) ((nu (σ 7) n (sk (σ 7) n (nu (σ 7) n (sk (σ 7) n (nu (σ 7) n (sk (σ 7) n (we (σ 7) n (sk (σ 7) n (we (σ 7) n (sk (σ 7) n (we (σ 7) n q)))))) 0).1) 0).1) 0).2.toInt32)) 3 (96 + 7 * fl + 5) (1 : Int32)))) hA (mo_k3 hm) (by omega) (by omega) (rg_up (by decide)) dX8_readLink_119 ?_
              refine pr_aload_n hA dX8_readLink_120 rfl ?_
              refine pr_getR hA f_X8_16 rfl (mo_k0 hm) (mo_f0_2 hm) dX8_readLink_121 ?_
              refine pr_bipush hA (nI 7) dX8_readLink_124 (by decide) ?_
              refine pr_dup2 hA dX8_readLink_126 rfl rfl ?_
              refine pr_ialdM (v := (nI fl)) hA (mo_k3 hm) (by omega) (by omega) ((rg_val (by decide)).trans ((pr_upk (by omega)).trans ((pr_upk (by omega)).trans ((pr_upv (by decide)).trans ((pr_upv (by decide)).trans ((pr_upv (by decide)).trans ((pr_upk (by omega)).trans ((pr_upv (by decide)).trans ((pr_upv (by decide)).trans ((pr_upv (by decide)).trans ((pr_upk (by omega)).trans ((pr_upv (by decide)).trans ((pr_upv (by decide)).trans ((pr_upv (by decide)).trans ((pr_upv (by decide)).trans ((pr_upk (by omega)).trans ((pr_upv (by decide)).trans ((pr_upv (by decide)).trans ((pr_upv (by decide)).trans ((pr_upk (by omega)).trans ((pr_upv (by decide)).trans ((pr_upv (by decide)).trans ((pr_upv (by decide)).trans hfl))))))))))))))))))))))) dX8_readLink_127 ?_
              refine pr_iconst hA (1) dX8_readLink_128 (by decide) ?_
              refine pr_iaddE (v := nI (fl + 1)) hA (nI_1 _) dX8_readLink_129 ?_
              refine pr_iastM (I' := (rg_put I m 16 (pr_up (pr_up (pr_up (pr_up (pr_up (pr_up (pr_up (pr_up (pr_up (pr_up (pr_up (pr_up (pr_up (pr_up (pr_up (pr_up (pr_up (pr_up (pr_up (pr_up (pr_up (pr_up (pr_up σ 0 9 (nI (we (σ 7) n q))) 0 9 (nI (sk (σ 7) n (we (σ 7) n q)))) 0 10 (nI (sk (σ 7) n (we (σ 7) n q)))) 3 (96 + 7 * fl + 0) (nmd (σ 3) (σ 7) (sk (σ 7) n (we (σ 7) n q)) ((we (σ 7) n (sk (σ 7) n (we (σ 7) n q))) - (sk (σ 7) n (we (σ 7) n q))) fn)) 0 9 (nI (we (σ 7) n (sk (σ 7) n (we (σ 7) n q))))) 0 9 (nI (sk (σ 7) n (we (σ 7) n (sk (σ 7) n (we (σ 7) n q)))))) 0 10 (nI (sk (σ 7) n (we (σ 7) n (sk (σ 7) n (we (σ 7) n q)))))) 3 (96 + 7 * fl + 1) (nmd ((pr_up (pr_up (pr_up (pr_up σ 0 9 (nI (we (σ 7) n q))) 0 9 (nI (sk (σ 7) n (we (σ 7) n q)))) 0 10 (nI (sk (σ 7) n (we (σ 7) n q)))) 3 (96 + 7 * fl + 0) (nmd (σ 3) (σ 7) (sk (σ 7) n (we (σ 7) n q)) ((we (σ 7) n (sk (σ 7) n (we (σ 7) n q))) - (sk (σ 7) n (we (σ 7) n q))) fn)) 3) (σ 7) (sk (σ 7) n (we (σ 7) n (sk (σ 7) n (we (σ 7) n q)))) ((we (σ 7) n (sk (σ 7) n (we (σ 7) n (sk (σ 7) n (we (σ 7) n q))))) - (sk (σ 7) n (we (σ 7) n (sk (σ 7) n (we (σ 7) n q))))) fn)) 0 9 (nI (we (σ 7) n (sk (σ 7) n (we (σ 7) n (sk (σ 7) n (we (σ 7) n q))))))) 0 9 (nI (sk (σ 7) n (we (σ 7) n (sk (σ 7) n (we (σ 7) n (sk (σ 7) n (we (σ 7) n q)))))))) 0 10 (nI (sk (σ 7) n (we (σ 7) n (sk (σ 7) n (we (σ 7) n (sk (σ 7) n (we (σ 7) n q)))))))) 0 9 (nI (nu (σ 7) n (sk (σ 7) n (we (σ 7) n (sk (σ 7) n (we (σ 7) n (sk (σ 7) n (we (σ 7) n q)))))) 0).1)) 3 (96 + 7 * fl + 2) ((nu (σ 7) n (sk (σ 7) n (we (σ 7) n (sk (σ 7) n (we (σ 7) n (sk (σ 7) n (we (σ 7) n q)))))) 0).2.toInt32)) 0 9 (nI (sk (σ 7) n (nu (σ 7) n (sk (σ 7) n (we (σ 7) n (sk (σ 7) n (we (σ 7) n (sk (σ 7) n (we (σ 7) n q)))))) 0).1))) 0 10 (nI (sk (σ 7) n (nu (σ 7) n (sk (σ 7) n (we (σ 7) n (sk (σ 7) n (we (σ 7) n (sk (σ 7) n (we (σ 7) n q)))))) 0).1))) 0 9 (nI (nu (σ 7) n (sk (σ 7) n (nu (σ 7) n (sk (σ 7) n (we (σ 7) n (sk (σ 7) n (we (σ 7) n (sk (σ 7) n (we (σ 7) n q)))))) 0).1) 0).1)) 3 (96 + 7 * fl + 3) ((nu (σ 7) n (sk (σ 7) n (nu (σ 7) n (sk (σ 7) n (we (σ 7) n (sk (σ 7) n (we (σ 7) n (sk (σ 7) n (we (σ 7) n q)))))) 0).1) 0).2.toInt32)) 0 9 (nI (sk (σ 7) n (nu (σ 7) n (sk (σ 7) n (nu (σ 7) n (sk (σ 7) n (we (σ 7) n (sk (σ 7) n (we (σ 7) n (sk (σ 7) n (we (σ 7) n q)))))) 0).1) 0).1))) 0 10 (nI (sk (σ 7) n (nu (σ 7) n (sk (σ 7) n (nu (σ 7) n (sk (σ 7) n (we (σ 7) n (sk (σ 7) n (we (σ 7) n (sk (σ 7) n (we (σ 7) n q)))))) 0).1) 0).1))) 0 9 (nI (nu (σ 7) n (sk (σ 7) n (nu (σ 7) n (sk (σ 7) n (nu (σ 7) n (sk (σ 7) n (we (σ 7) n (sk (σ 7) n (we (σ 7) n (sk (σ 7) n (we (σ 7) n q)))))) 0).1) 0).1) 0).1)) 3 (96 + 7 * fl + 4) ((nu (σ 7) n (sk (σ 7) n (nu (σ 7) n (sk (σ 7) n (nu (σ 7) n (sk (σ 7) n (we (σ 7) n (sk (σ 7) n (we (σ 7) n (sk (σ 7) n (we (σ 7) n q)))))) 0).1) 0).1) 0).2.toInt32)) 3 (96 + 7 * fl + 5) (1 : Int32)) 3 7 (nI (fl + 1))))) hA (mo_k3 hm) (by omega) (by omega) (rg_up (by decide)) dX8_readLink_130 ?_
              refine pr_iconst hA (1) dX8_readLink_131 (by decide) ?_
              exact pr_ireturn hA rfl (pr_nb (by repeat (first | exact Or.inl rfl | exact Or.inr rfl | refine nb_ite ?_ ?_))) (Nat.zero_le _) (Nat.zero_le _) dX8_readLink_132 ⟨(by simp only [m_rl_r, if_neg c_9, if_neg c_45, if_neg c_63, if_neg c_79, if_neg c_93, if_neg c_106]), rfl, (by simp only [m_rl, if_neg c_9, if_neg c_45, if_neg c_63, if_neg c_79, if_neg c_93, if_neg c_106]), rfl⟩
            · refine pr_iconst hA (0) dX8_readLink_109 (by decide) ?_
              exact pr_ireturn hA rfl (pr_nb (by repeat (first | exact Or.inl rfl | exact Or.inr rfl | refine nb_ite ?_ ?_))) (Nat.zero_le _) (Nat.zero_le _) dX8_readLink_110 ⟨(by simp only [m_rl_r, if_neg c_9, if_neg c_45, if_neg c_63, if_neg c_79, if_neg c_93, if_pos c_106]), rfl, (by simp only [m_rl, if_neg c_9, if_neg c_45, if_neg c_63, if_neg c_79, if_neg c_93, if_pos c_106]), rfl⟩
      · refine pr_iconst hA (0) dX8_readLink_66 (by decide) ?_
        exact pr_ireturn hA rfl (pr_nb (by repeat (first | exact Or.inl rfl | exact Or.inr rfl | refine nb_ite ?_ ?_))) (Nat.zero_le _) (Nat.zero_le _) dX8_readLink_67 ⟨(by simp only [m_rl_r, if_neg c_9, if_neg c_45, if_pos c_63]), rfl, (by simp only [m_rl, if_neg c_9, if_neg c_45, if_pos c_63]), rfl⟩
  · have n_9 : fl = 24 := (nI_eq (by omega) (by omega)).mp c_9
    refine pr_aload_n hA dX8_readLink_12 rfl ?_
    refine pr_iconst hA (4) dX8_readLink_13 (by decide) ?_
    refine pr_callVi hA [.int (4 : Int32)] (c_fails (m := m) (σ := σ) (q := q) (e := (4 : Int32)) (pr_hl hA) hm hq h12) v_X8_122 (mo_k0 hm) (by decide) rfl rfl rfl (by decide) (Nat.zero_le _) (Nat.zero_le _) rfl (Nat.le_of_ble_eq_true rfl) dX8_readLink_14 ?_
    exact pr_ireturn hA rfl (pr_nb (by repeat (first | exact Or.inl rfl | exact Or.inr rfl | refine nb_ite ?_ ?_))) (Nat.zero_le _) (Nat.zero_le _) dX8_readLink_17 ⟨(by simp only [m_rl_r, if_pos c_9]), rfl, (by simp only [m_rl, if_pos c_9]), rfl⟩

theorem fr_m_rl {σ : pr_I} {n : Nat} {q : Nat} {fn : Nat} {fl : Nat} {o : Nat} (hms : ∀ m ∈ ([0, 3] : List Nat), o ≠ m) : m_rl σ n q fn fl o = σ o := by
  unfold m_rl
  simp only [List.mem_cons, List.not_mem_nil, or_false, forall_eq_or_imp, forall_eq] at hms
  by_cases c_9 : (nI fl) = (nI 24)
  · refine (congrFun (if_pos c_9) o).trans ?_
    rw [pr_up_ne (by omega), pr_up_ne (by omega)]
  · refine (congrFun (if_neg c_9) o).trans ?_
    by_cases c_45 : (m_re_r (pr_up σ 0 9 (nI (we (σ 7) n q))) n (we (σ 7) n q) fn (96 + 7 * fl + 0) ((-1) : Int32)) = 0
    · refine (congrFun (if_pos c_45) o).trans ?_
      rw [fr_m_re (by simp only [List.mem_cons, List.not_mem_nil, or_false, forall_eq_or_imp, forall_eq]; omega), pr_up_ne (by omega)]
    · refine (congrFun (if_neg c_45) o).trans ?_
      by_cases c_63 : (m_re_r (pr_up (pr_up (pr_up (pr_up (pr_up σ 0 9 (nI (we (σ 7) n q))) 0 9 (nI (sk (σ 7) n (we (σ 7) n q)))) 0 10 (nI (sk (σ 7) n (we (σ 7) n q)))) 3 (96 + 7 * fl + 0) (nmd (σ 3) (σ 7) (sk (σ 7) n (we (σ 7) n q)) ((we (σ 7) n (sk (σ 7) n (we (σ 7) n q))) - (sk (σ 7) n (we (σ 7) n q))) fn)) 0 9 (nI (we (σ 7) n (sk (σ 7) n (we (σ 7) n q))))) n (we (σ 7) n (sk (σ 7) n (we (σ 7) n q))) fn (96 + 7 * fl + 1) (nmd (σ 3) (σ 7) (sk (σ 7) n (we (σ 7) n q)) ((we (σ 7) n (sk (σ 7) n (we (σ 7) n q))) - (sk (σ 7) n (we (σ 7) n q))) fn)) = 0
      · refine (congrFun (if_pos c_63) o).trans ?_
        rw [fr_m_re (by simp only [List.mem_cons, List.not_mem_nil, or_false, forall_eq_or_imp, forall_eq]; omega), pr_up_ne (by omega), pr_up_ne (by omega), pr_up_ne (by omega), pr_up_ne (by omega), pr_up_ne (by omega)]
      · refine (congrFun (if_neg c_63) o).trans ?_
        by_cases c_79 : (m_rd_r (pr_up (pr_up (pr_up (pr_up (pr_up (pr_up (pr_up (pr_up (pr_up σ 0 9 (nI (we (σ 7) n q))) 0 9 (nI (sk (σ 7) n (we (σ 7) n q)))) 0 10 (nI (sk (σ 7) n (we (σ 7) n q)))) 3 (96 + 7 * fl + 0) (nmd (σ 3) (σ 7) (sk (σ 7) n (we (σ 7) n q)) ((we (σ 7) n (sk (σ 7) n (we (σ 7) n q))) - (sk (σ 7) n (we (σ 7) n q))) fn)) 0 9 (nI (we (σ 7) n (sk (σ 7) n (we (σ 7) n q))))) 0 9 (nI (sk (σ 7) n (we (σ 7) n (sk (σ 7) n (we (σ 7) n q)))))) 0 10 (nI (sk (σ 7) n (we (σ 7) n (sk (σ 7) n (we (σ 7) n q)))))) 3 (96 + 7 * fl + 1) (nmd ((pr_up (pr_up (pr_up (pr_up σ 0 9 (nI (we (σ 7) n q))) 0 9 (nI (sk (σ 7) n (we (σ 7) n q)))) 0 10 (nI (sk (σ 7) n (we (σ 7) n q)))) 3 (96 + 7 * fl + 0) (nmd (σ 3) (σ 7) (sk (σ 7) n (we (σ 7) n q)) ((we (σ 7) n (sk (σ 7) n (we (σ 7) n q))) - (sk (σ 7) n (we (σ 7) n q))) fn)) 3) (σ 7) (sk (σ 7) n (we (σ 7) n (sk (σ 7) n (we (σ 7) n q)))) ((we (σ 7) n (sk (σ 7) n (we (σ 7) n (sk (σ 7) n (we (σ 7) n q))))) - (sk (σ 7) n (we (σ 7) n (sk (σ 7) n (we (σ 7) n q))))) fn)) 0 9 (nI (we (σ 7) n (sk (σ 7) n (we (σ 7) n (sk (σ 7) n (we (σ 7) n q))))))) n (we (σ 7) n (sk (σ 7) n (we (σ 7) n (sk (σ 7) n (we (σ 7) n q))))) (96 + 7 * fl + 2) (0 : Int32) (1000 : Int32)) = 0
        · refine (congrFun (if_pos c_79) o).trans ?_
          rw [fr_m_rd (by simp only [List.mem_cons, List.not_mem_nil, or_false, forall_eq_or_imp, forall_eq]; omega), pr_up_ne (by omega), pr_up_ne (by omega), pr_up_ne (by omega), pr_up_ne (by omega), pr_up_ne (by omega), pr_up_ne (by omega), pr_up_ne (by omega), pr_up_ne (by omega), pr_up_ne (by omega)]
        · refine (congrFun (if_neg c_79) o).trans ?_
          by_cases c_93 : (m_rd_r (pr_up (pr_up (pr_up (pr_up (pr_up (pr_up (pr_up (pr_up (pr_up (pr_up (pr_up (pr_up (pr_up σ 0 9 (nI (we (σ 7) n q))) 0 9 (nI (sk (σ 7) n (we (σ 7) n q)))) 0 10 (nI (sk (σ 7) n (we (σ 7) n q)))) 3 (96 + 7 * fl + 0) (nmd (σ 3) (σ 7) (sk (σ 7) n (we (σ 7) n q)) ((we (σ 7) n (sk (σ 7) n (we (σ 7) n q))) - (sk (σ 7) n (we (σ 7) n q))) fn)) 0 9 (nI (we (σ 7) n (sk (σ 7) n (we (σ 7) n q))))) 0 9 (nI (sk (σ 7) n (we (σ 7) n (sk (σ 7) n (we (σ 7) n q)))))) 0 10 (nI (sk (σ 7) n (we (σ 7) n (sk (σ 7) n (we (σ 7) n q)))))) 3 (96 + 7 * fl + 1) (nmd ((pr_up (pr_up (pr_up (pr_up σ 0 9 (nI (we (σ 7) n q))) 0 9 (nI (sk (σ 7) n (we (σ 7) n q)))) 0 10 (nI (sk (σ 7) n (we (σ 7) n q)))) 3 (96 + 7 * fl + 0) (nmd (σ 3) (σ 7) (sk (σ 7) n (we (σ 7) n q)) ((we (σ 7) n (sk (σ 7) n (we (σ 7) n q))) - (sk (σ 7) n (we (σ 7) n q))) fn)) 3) (σ 7) (sk (σ 7) n (we (σ 7) n (sk (σ 7) n (we (σ 7) n q)))) ((we (σ 7) n (sk (σ 7) n (we (σ 7) n (sk (σ 7) n (we (σ 7) n q))))) - (sk (σ 7) n (we (σ 7) n (sk (σ 7) n (we (σ 7) n q))))) fn)) 0 9 (nI (we (σ 7) n (sk (σ 7) n (we (σ 7) n (sk (σ 7) n (we (σ 7) n q))))))) 0 9 (nI (sk (σ 7) n (we (σ 7) n (sk (σ 7) n (we (σ 7) n (sk (σ 7) n (we (σ 7) n q)))))))) 0 10 (nI (sk (σ 7) n (we (σ 7) n (sk (σ 7) n (we (σ 7) n (sk (σ 7) n (we (σ 7) n q)))))))) 0 9 (nI (nu (σ 7) n (sk (σ 7) n (we (σ 7) n (sk (σ 7) n (we (σ 7) n (sk (σ 7) n (we (σ 7) n q)))))) 0).1)) 3 (96 + 7 * fl + 2) ((nu (σ 7) n (sk (σ 7) n (we (σ 7) n (sk (σ 7) n (we (σ 7) n (sk (σ 7) n (we (σ 7) n q)))))) 0).2.toInt32)) n (nu (σ 7) n (sk (σ 7) n (we (σ 7) n (sk (σ 7) n (we (σ 7) n (sk (σ 7) n (we (σ 7) n q)))))) 0).1 (96 + 7 * fl + 3) (0 : Int32) (1000 : Int32)) = 0
          · refine (congrFun (if_pos c_93) o).trans ?_
            rw [fr_m_rd (by simp only [List.mem_cons, List.not_mem_nil, or_false, forall_eq_or_imp, forall_eq]; omega), pr_up_ne (by omega), pr_up_ne (by omega), pr_up_ne (by omega), pr_up_ne (by omega), pr_up_ne (by omega), pr_up_ne (by omega), pr_up_ne (by omega), pr_up_ne (by omega), pr_up_ne (by omega), pr_up_ne (by omega), pr_up_ne (by omega), pr_up_ne (by omega), pr_up_ne (by omega)]
          · refine (congrFun (if_neg c_93) o).trans ?_
            by_cases c_106 : (m_rd_r (pr_up (pr_up (pr_up (pr_up (pr_up (pr_up (pr_up (pr_up (pr_up (pr_up (pr_up (pr_up (pr_up (pr_up (pr_up (pr_up (pr_up σ 0 9 (nI (we (σ 7) n q))) 0 9 (nI (sk (σ 7) n (we (σ 7) n q)))) 0 10 (nI (sk (σ 7) n (we (σ 7) n q)))) 3 (96 + 7 * fl + 0) (nmd (σ 3) (σ 7) (sk (σ 7) n (we (σ 7) n q)) ((we (σ 7) n (sk (σ 7) n (we (σ 7) n q))) - (sk (σ 7) n (we (σ 7) n q))) fn)) 0 9 (nI (we (σ 7) n (sk (σ 7) n (we (σ 7) n q))))) 0 9 (nI (sk (σ 7) n (we (σ 7) n (sk (σ 7) n (we (σ 7) n q)))))) 0 10 (nI (sk (σ 7) n (we (σ 7) n (sk (σ 7) n (we (σ 7) n q)))))) 3 (96 + 7 * fl + 1) (nmd ((pr_up (pr_up (pr_up (pr_up σ 0 9 (nI (we (σ 7) n q))) 0 9 (nI (sk (σ 7) n (we (σ 7) n q)))) 0 10 (nI (sk (σ 7) n (we (σ 7) n q)))) 3 (96 + 7 * fl + 0) (nmd (σ 3) (σ 7) (sk (σ 7) n (we (σ 7) n q)) ((we (σ 7) n (sk (σ 7) n (we (σ 7) n q))) - (sk (σ 7) n (we (σ 7) n q))) fn)) 3) (σ 7) (sk (σ 7) n (we (σ 7) n (sk (σ 7) n (we (σ 7) n q)))) ((we (σ 7) n (sk (σ 7) n (we (σ 7) n (sk (σ 7) n (we (σ 7) n q))))) - (sk (σ 7) n (we (σ 7) n (sk (σ 7) n (we (σ 7) n q))))) fn)) 0 9 (nI (we (σ 7) n (sk (σ 7) n (we (σ 7) n (sk (σ 7) n (we (σ 7) n q))))))) 0 9 (nI (sk (σ 7) n (we (σ 7) n (sk (σ 7) n (we (σ 7) n (sk (σ 7) n (we (σ 7) n q)))))))) 0 10 (nI (sk (σ 7) n (we (σ 7) n (sk (σ 7) n (we (σ 7) n (sk (σ 7) n (we (σ 7) n q)))))))) 0 9 (nI (nu (σ 7) n (sk (σ 7) n (we (σ 7) n (sk (σ 7) n (we (σ 7) n (sk (σ 7) n (we (σ 7) n q)))))) 0).1)) 3 (96 + 7 * fl + 2) ((nu (σ 7) n (sk (σ 7) n (we (σ 7) n (sk (σ 7) n (we (σ 7) n (sk (σ 7) n (we (σ 7) n q)))))) 0).2.toInt32)) 0 9 (nI (sk (σ 7) n (nu (σ 7) n (sk (σ 7) n (we (σ 7) n (sk (σ 7) n (we (σ 7) n (sk (σ 7) n (we (σ 7) n q)))))) 0).1))) 0 10 (nI (sk (σ 7) n (nu (σ 7) n (sk (σ 7) n (we (σ 7) n (sk (σ 7) n (we (σ 7) n (sk (σ 7) n (we (σ 7) n q)))))) 0).1))) 0 9 (nI (nu (σ 7) n (sk (σ 7) n (nu (σ 7) n (sk (σ 7) n (we (σ 7) n (sk (σ 7) n (we (σ 7) n (sk (σ 7) n (we (σ 7) n q)))))) 0).1) 0).1)) 3 (96 + 7 * fl + 3) ((nu (σ 7) n (sk (σ 7) n (nu (σ 7) n (sk (σ 7) n (we (σ 7) n (sk (σ 7) n (we (σ 7) n (sk (σ 7) n (we (σ 7) n q)))))) 0).1) 0).2.toInt32)) n (nu (σ 7) n (sk (σ 7) n (nu (σ 7) n (sk (σ 7) n (we (σ 7) n (sk (σ 7) n (we (σ 7) n (sk (σ 7) n (we (σ 7) n q)))))) 0).1) 0).1 (96 + 7 * fl + 4) (1 : Int32) (50 : Int32)) = 0
            · refine (congrFun (if_pos c_106) o).trans ?_
              rw [fr_m_rd (by simp only [List.mem_cons, List.not_mem_nil, or_false, forall_eq_or_imp, forall_eq]; omega), pr_up_ne (by omega), pr_up_ne (by omega), pr_up_ne (by omega), pr_up_ne (by omega), pr_up_ne (by omega), pr_up_ne (by omega), pr_up_ne (by omega), pr_up_ne (by omega), pr_up_ne (by omega), pr_up_ne (by omega), pr_up_ne (by omega), pr_up_ne (by omega), pr_up_ne (by omega), pr_up_ne (by omega), pr_up_ne (by omega), pr_up_ne (by omega), pr_up_ne (by omega)]
            · refine (congrFun (if_neg c_106) o).trans ?_
              rw [pr_up_ne (by omega), pr_up_ne (by omega), pr_up_ne (by omega), pr_up_ne (by omega), pr_up_ne (by omega), pr_up_ne (by omega), pr_up_ne (by omega), pr_up_ne (by omega), pr_up_ne (by omega), pr_up_ne (by omega), pr_up_ne (by omega), pr_up_ne (by omega), pr_up_ne (by omega), pr_up_ne (by omega), pr_up_ne (by omega), pr_up_ne (by omega), pr_up_ne (by omega), pr_up_ne (by omega), pr_up_ne (by omega), pr_up_ne (by omega), pr_up_ne (by omega), pr_up_ne (by omega), pr_up_ne (by omega)]

noncomputable def m_rg_r (σ : pr_I) (n : Nat) (q : Nat) (j : Nat) : Int32 := (if (m_rd_r (pr_up σ 0 9 (nI (we (σ 7) n q))) n (we (σ 7) n q) j (m_lst j) (m_mst j)) = 0 then (0 : Int32) else (1 : Int32))
noncomputable def m_rg (σ : pr_I) (n : Nat) (q : Nat) (j : Nat) : pr_I := (m_rd (pr_up σ 0 9 (nI (we (σ 7) n q))) n (we (σ 7) n q) j (m_lst j) (m_mst j))
set_option maxRecDepth 100000 in
set_option maxHeartbeats 400000 in
theorem c_m_rg {g : pr_C} {l : Launch} (hl : l.stackTraces = false) {T : pr_T} {I : pr_I} {L : pr_L} {m : Nat} {σ : pr_I} {n : Nat} {q : Nat} {j : Nat} (hm : pr_Mo T m) (hn : σ 0 8 = nI n) (hn7 : n ≤ 700) (hq : σ 0 10 = nI q) (hqn : q ≤ n) (h12 : σ 0 12 = 0) (hj1 : 1 ≤ j) (hj5 : j ≤ 5) : pr_M g l 9 0 0 mX8_readSetting [.ref m, .int (nI j)] T (rg_put I m 16 σ) L (pr_R (some (.int (m_rg_r σ n q j))) T (rg_put I m 16 (m_rg σ n q j)) L) pr_no := by
  refine pr_ofG (by decide) rfl hl (Nat.le_of_ble_eq_true rfl) (fun X hA hX hXn hXt => ?_)
  subst hX
  show pr_G g X mX8_readSetting.2.2.1 _ 0 0 0 [.ref m, .int (nI j)] [] T (rg_put I m 16 σ) L
  have hw0 := we_le (b := σ 7) hqn
  refine pr_aload_n hA dX8_readSetting_0 rfl ?_
  refine pr_callVi hA [] (c_passesE (m := m) (σ := σ) (n := n) (q := q) (b := (σ 7)) (pr_hl hA) hm hn (by omega) hq (by omega) rfl) v_X8_139 (mo_k0 hm) (by decide) rfl rfl rfl (by decide) (Nat.zero_le _) (Nat.zero_le _) rfl (Nat.le_of_ble_eq_true rfl) dX8_readSetting_1 ?_
  refine pr_if_eq hA 27 dX8_readSetting_4 (by decide) (fun c_4 => ?_) (fun c_4 => ?_)
  · exact absurd c_4 (by decide)
  · refine pr_aload_n hA dX8_readSetting_7 rfl ?_
    refine pr_iload_n hA dX8_readSetting_8 rfl ?_
    refine pr_iload_n hA dX8_readSetting_9 rfl ?_
    refine pr_callSi hA [.int (nI j)] (c_m_lst (m := m) (σ := (pr_up σ 0 9 (nI (we (σ 7) n q)))) (j := j) (pr_hl hA) (by omega) (by omega)) s_X8_154 rfl (by decide) (Nat.zero_le _) (Nat.zero_le _) rfl (Nat.le_of_ble_eq_true rfl) dX8_readSetting_10 ?_
    refine pr_iload_n hA dX8_readSetting_13 rfl ?_
    refine pr_callSi hA [.int (nI j)] (c_m_mst (m := m) (σ := (pr_up σ 0 9 (nI (we (σ 7) n q)))) (j := j) (pr_hl hA) (by omega) (by omega)) s_X8_157 rfl (by decide) (Nat.zero_le _) (Nat.zero_le _) rfl (Nat.le_of_ble_eq_true rfl) dX8_readSetting_14 ?_
    refine pr_callVi hA [.int (nI j), .int (m_lst j), .int (m_mst j)] (c_m_rd (m := m) (σ := (pr_up σ 0 9 (nI (we (σ 7) n q)))) (n := n) (p := (we (σ 7) n q)) (pl := j) (lo := (m_lst j)) (hi := (m_mst j)) (pr_hl hA) hm ((pr_upk (by decide)).trans hn) (by omega) pr_upe (by omega) ((pr_upk (by decide)).trans h12) (by omega)) v_X8_150 (mo_k0 hm) (by decide) rfl rfl rfl (by decide) (Nat.zero_le _) (Nat.zero_le _) rfl (Nat.le_of_ble_eq_true rfl) dX8_readSetting_17 ?_
    refine pr_join (c := (m_rd_r (pr_up σ 0 9 (nI (we (σ 7) n q))) n (we (σ 7) n q) j (m_lst j) (m_mst j)) = 0) (J := 28) (st := []) (0 : Int32) (1 : Int32) inferInstance (fun kt kf => ?_) ?_
    · refine pr_if_eq hA 27 dX8_readSetting_20 (by decide) (fun c_20 => ?_) (fun c_20 => ?_)
      · refine pr_iconst hA (0) dX8_readSetting_27 (by decide) ?_
        exact kt c_20
      · refine pr_iconst hA (1) dX8_readSetting_23 (by decide) ?_
        refine pr_goto hA 28 dX8_readSetting_24 (by decide) ?_
        exact kf c_20
    · exact pr_ireturn hA rfl (pr_nb (by repeat (first | exact Or.inl rfl | exact Or.inr rfl | refine nb_ite ?_ ?_))) (Nat.zero_le _) (Nat.zero_le _) dX8_readSetting_28 ⟨rfl, rfl, rfl, rfl⟩

theorem fr_m_rg {σ : pr_I} {n : Nat} {q : Nat} {j : Nat} {o : Nat} (hms : ∀ m ∈ ([0, 3] : List Nat), o ≠ m) : m_rg σ n q j o = σ o := by
  unfold m_rg
  simp only [List.mem_cons, List.not_mem_nil, or_false, forall_eq_or_imp, forall_eq] at hms
  rw [fr_m_rd (by simp only [List.mem_cons, List.not_mem_nil, or_false, forall_eq_or_imp, forall_eq]; omega), pr_up_ne (by omega)]

noncomputable def m_rn_it91 (σ : pr_I) (n : Nat) (q : Nat) (fn : Nat) : Nat → pr_I
  | 0 => (pr_up (pr_up (pr_up (pr_up σ 0 9 (nI (we (σ 7) n q))) 0 9 (nI (sk (σ 7) n (we (σ 7) n q)))) 0 10 (nI (sk (σ 7) n (we (σ 7) n q)))) 3 (12 + 7 * fn) (nI ((we (σ 7) n (sk (σ 7) n (we (σ 7) n q))) - (sk (σ 7) n (we (σ 7) n q)))))
  | k + 1 => (pr_up (m_rn_it91 σ n q fn k) 3 ((12 + 7 * fn) + 1 + k) (σ 7 ((sk (σ 7) n (we (σ 7) n q)) + k)))
theorem fr_m_rn_it91 {σ : pr_I} {n : Nat} {q : Nat} {fn : Nat} {o : Nat} (hms : ∀ m ∈ ([3] : List Nat), o ≠ m) : ∀ {k : Nat}, (m_rn_it91 σ n q fn k) o = (pr_up (pr_up (pr_up (pr_up σ 0 9 (nI (we (σ 7) n q))) 0 9 (nI (sk (σ 7) n (we (σ 7) n q)))) 0 10 (nI (sk (σ 7) n (we (σ 7) n q)))) 3 (12 + 7 * fn) (nI ((we (σ 7) n (sk (σ 7) n (we (σ 7) n q))) - (sk (σ 7) n (we (σ 7) n q))))) o := by
  simp only [List.mem_cons, List.not_mem_nil, or_false, forall_eq_or_imp, forall_eq] at hms
  intro k
  induction k with
  | zero =>
    show (pr_up (pr_up (pr_up (pr_up σ 0 9 (nI (we (σ 7) n q))) 0 9 (nI (sk (σ 7) n (we (σ 7) n q)))) 0 10 (nI (sk (σ 7) n (we (σ 7) n q)))) 3 (12 + 7 * fn) (nI ((we (σ 7) n (sk (σ 7) n (we (σ 7) n q))) - (sk (σ 7) n (we (σ 7) n q))))) o = (pr_up (pr_up (pr_up (pr_up σ 0 9 (nI (we (σ 7) n q))) 0 9 (nI (sk (σ 7) n (we (σ 7) n q)))) 0 10 (nI (sk (σ 7) n (we (σ 7) n q)))) 3 (12 + 7 * fn) (nI ((we (σ 7) n (sk (σ 7) n (we (σ 7) n q))) - (sk (σ 7) n (we (σ 7) n q))))) o
    rfl
  | succ k ih =>
    show (pr_up (m_rn_it91 σ n q fn k) 3 ((12 + 7 * fn) + 1 + k) (σ 7 ((sk (σ 7) n (we (σ 7) n q)) + k))) o = (pr_up (pr_up (pr_up (pr_up σ 0 9 (nI (we (σ 7) n q))) 0 9 (nI (sk (σ 7) n (we (σ 7) n q)))) 0 10 (nI (sk (σ 7) n (we (σ 7) n q)))) 3 (12 + 7 * fn) (nI ((we (σ 7) n (sk (σ 7) n (we (σ 7) n q))) - (sk (σ 7) n (we (σ 7) n q))))) o
    rw [pr_up_ne (by omega), ih]

noncomputable def m_rn_r (σ : pr_I) (n : Nat) (q : Nat) (fn : Nat) : Int32 := (if (nI fn) = (nI 12) then (0 : Int32) else (if (nI ((we (σ 7) n (sk (σ 7) n (we (σ 7) n q))) - (sk (σ 7) n (we (σ 7) n q)))) = 0 then (0 : Int32) else (if (nI 6) < (nI ((we (σ 7) n (sk (σ 7) n (we (σ 7) n q))) - (sk (σ 7) n (we (σ 7) n q)))) then (0 : Int32) else (if (nmd (σ 3) (σ 7) (sk (σ 7) n (we (σ 7) n q)) ((we (σ 7) n (sk (σ 7) n (we (σ 7) n q))) - (sk (σ 7) n (we (σ 7) n q))) fn) = ((-1) : Int32) then (1 : Int32) else (0 : Int32)))))
noncomputable def m_rn (σ : pr_I) (n : Nat) (q : Nat) (fn : Nat) : pr_I := (if (nI fn) = (nI 12) then (pr_up (pr_up σ 0 12 (4 : Int32)) 0 11 (nI q)) else (if (nI ((we (σ 7) n (sk (σ 7) n (we (σ 7) n q))) - (sk (σ 7) n (we (σ 7) n q)))) = 0 then (pr_up (pr_up (pr_up (pr_up (pr_up σ 0 9 (nI (we (σ 7) n q))) 0 9 (nI (sk (σ 7) n (we (σ 7) n q)))) 0 10 (nI (sk (σ 7) n (we (σ 7) n q)))) 0 12 (1 : Int32)) 0 11 (nI (sk (σ 7) n (we (σ 7) n q)))) else (if (nI 6) < (nI ((we (σ 7) n (sk (σ 7) n (we (σ 7) n q))) - (sk (σ 7) n (we (σ 7) n q)))) then (pr_up (pr_up (pr_up (pr_up (pr_up σ 0 9 (nI (we (σ 7) n q))) 0 9 (nI (sk (σ 7) n (we (σ 7) n q)))) 0 10 (nI (sk (σ 7) n (we (σ 7) n q)))) 0 12 (3 : Int32)) 0 11 (nI (sk (σ 7) n (we (σ 7) n q)))) else (if (nmd (σ 3) (σ 7) (sk (σ 7) n (we (σ 7) n q)) ((we (σ 7) n (sk (σ 7) n (we (σ 7) n q))) - (sk (σ 7) n (we (σ 7) n q))) fn) = ((-1) : Int32) then (pr_up (pr_up (m_rn_it91 σ n q fn ((we (σ 7) n (sk (σ 7) n (we (σ 7) n q))) - (sk (σ 7) n (we (σ 7) n q)))) 3 6 (nI (fn + 1))) 0 9 (nI (we (σ 7) n (sk (σ 7) n (we (σ 7) n q))))) else (pr_up (pr_up (pr_up (pr_up (pr_up σ 0 9 (nI (we (σ 7) n q))) 0 9 (nI (sk (σ 7) n (we (σ 7) n q)))) 0 10 (nI (sk (σ 7) n (we (σ 7) n q)))) 0 12 (3 : Int32)) 0 11 (nI (sk (σ 7) n (we (σ 7) n q))))))))
theorem m_rn_6 {σ : pr_I} {n q fn : Nat} (hfn : σ 3 6 = nI fn) : ∀ k, (m_rn_it91 σ n q fn k) 3 6 = nI fn
  | 0 => by
    show (pr_up (pr_up (pr_up (pr_up σ 0 9 _) 0 9 _) 0 10 _) 3 (12 + 7 * fn) _) 3 6 = nI fn
    exact (pr_upk (by omega)).trans hfn
  | k + 1 => by
    have ih := m_rn_6 (n := n) (q := q) hfn k
    exact (pr_upk (by omega)).trans ih
set_option maxRecDepth 100000 in
set_option maxHeartbeats 400000 in
theorem c_m_rn {g : pr_C} {l : Launch} (hl : l.stackTraces = false) {T : pr_T} {I : pr_I} {L : pr_L} {m : Nat} {σ : pr_I} {n : Nat} {q : Nat} {fn : Nat} (hm : pr_Mo T m) (hn : σ 0 8 = nI n) (hn7 : n ≤ 700) (hq : σ 0 10 = nI q) (hqn : q ≤ n) (h12 : σ 0 12 = 0) (hfn : σ 3 6 = nI fn) (hfn12 : fn ≤ 12) : pr_M g l 9 0 0 mX8_readNode [.ref m] T (rg_put I m 16 σ) L (pr_R (some (.int (m_rn_r σ n q fn))) T (rg_put I m 16 (m_rn σ n q fn)) L) pr_no := by
  refine pr_ofG (by decide) rfl hl (Nat.le_of_ble_eq_true rfl) (fun X hA hX hXn hXt => ?_)
  subst hX
  show pr_G g X mX8_readNode.2.2.1 _ 0 0 0 [.ref m, .null, .null, .null] [] T (rg_put I m 16 σ) L
  have hw0 := we_le (b := σ 7) hqn
  have hs1 := sk_le (b := σ 7) hw0.2
  have hw1 := we_le (b := σ 7) hs1.2
  refine pr_aload_n hA dX8_readNode_0 rfl ?_
  refine pr_getR hA f_X8_16 rfl (mo_k0 hm) (mo_f0_2 hm) dX8_readNode_1 ?_
  refine pr_bipush hA (nI 6) dX8_readNode_4 (by decide) ?_
  refine pr_ialdM (v := (nI fn)) hA (mo_k3 hm) (by omega) (by omega) ((rg_val (by decide)).trans hfn) dX8_readNode_6 ?_
  refine pr_bipush hA (nI 12) dX8_readNode_7 (by decide) ?_
  refine pr_icmp_ne hA 18 dX8_readNode_9 (by decide) (fun c_9 => ?_) (fun c_9 => ?_)
  · have n_9 : ¬ fn = 12 := fun q => c_9 ((nI_eq (by omega) (by omega)).mpr q)
    refine pr_aload_n hA dX8_readNode_18 rfl ?_
    refine pr_callVi hA [] (c_passesE (m := m) (σ := σ) (n := n) (q := q) (b := (σ 7)) (pr_hl hA) hm hn (by omega) hq (by omega) rfl) v_X8_139 (mo_k0 hm) (by decide) rfl rfl rfl (by decide) (Nat.zero_le _) (Nat.zero_le _) rfl (Nat.le_of_ble_eq_true rfl) dX8_readNode_19 ?_
    refine pr_pop hA dX8_readNode_22 rfl ?_
    refine pr_aload_n hA dX8_readNode_23 rfl ?_
    refine pr_callVi hA [] (c_seeE (m := m) (σ := (pr_up σ 0 9 (nI (we (σ 7) n q)))) (n := n) (p := (we (σ 7) n q)) (b := (σ 7)) (pr_hl hA) hm ((pr_upk (by decide)).trans hn) (by omega) pr_upe (by omega) (pr_up_ne (by decide))) v_X8_116 (mo_k0 hm) (by decide) rfl rfl rfl (by decide) (Nat.zero_le _) (Nat.zero_le _) rfl (Nat.le_of_ble_eq_true rfl) dX8_readNode_24 ?_
    refine pr_pop hA dX8_readNode_27 rfl ?_
    refine pr_aload_n hA dX8_readNode_28 rfl ?_
    refine pr_callVi hA [] (c_weE (m := m) (σ := (pr_up (pr_up (pr_up σ 0 9 (nI (we (σ 7) n q))) 0 9 (nI (sk (σ 7) n (we (σ 7) n q)))) 0 10 (nI (sk (σ 7) n (we (σ 7) n q))))) (n := n) (q := (sk (σ 7) n (we (σ 7) n q))) (b := (σ 7)) (pr_hl hA) hm ((pr_upk (by decide)).trans ((pr_upk (by decide)).trans ((pr_upk (by decide)).trans hn))) (by omega) pr_upe (by omega) ((pr_up_ne (by decide)).trans ((pr_up_ne (by decide)).trans (pr_up_ne (by decide))))) v_X8_104 (mo_k0 hm) (by decide) rfl rfl rfl (by decide) (Nat.zero_le _) (Nat.zero_le _) rfl (Nat.le_of_ble_eq_true rfl) dX8_readNode_29 ?_
    refine pr_aload_n hA dX8_readNode_32 rfl ?_
    refine pr_getE (v := (nI (sk (σ 7) n (we (σ 7) n q)))) hA f_X8_91 rfl (mo_k0 hm) ((rg_val0 (by decide)).trans pr_upe) dX8_readNode_33 ?_
    refine pr_isub hA dX8_readNode_36 ?_
    rw [show ((nI (we (σ 7) n (sk (σ 7) n (we (σ 7) n q)))) - (nI (sk (σ 7) n (we (σ 7) n q)))) = (nI ((we (σ 7) n (sk (σ 7) n (we (σ 7) n q))) - (sk (σ 7) n (we (σ 7) n q)))) from (nI_sub hw1.1)]
    refine pr_istore_n (ls' := [_, _, _, _]) hA dX8_readNode_37 (by decide) rfl ?_
    refine pr_iload_n hA dX8_readNode_38 rfl ?_
    refine pr_if_ne hA 48 dX8_readNode_39 (by decide) (fun c_39 => ?_) (fun c_39 => ?_)
    · refine pr_iload_n hA dX8_readNode_48 rfl ?_
      refine pr_bipush hA (nI 6) dX8_readNode_49 (by decide) ?_
      refine pr_icmp_gt hA 62 dX8_readNode_51 (by decide) (fun c_51 => ?_) (fun c_51 => ?_)
      · have n_51 : 6 < ((we (σ 7) n (sk (σ 7) n (we (σ 7) n q))) - (sk (σ 7) n (we (σ 7) n q))) := (nI_ltI (by omega) (by omega)).mp c_51
        refine pr_aload_n hA dX8_readNode_62 rfl ?_
        refine pr_iconst hA (3) dX8_readNode_63 (by decide) ?_
        refine pr_callVi hA [.int (3 : Int32)] (c_fails (m := m) (σ := (pr_up (pr_up (pr_up σ 0 9 (nI (we (σ 7) n q))) 0 9 (nI (sk (σ 7) n (we (σ 7) n q)))) 0 10 (nI (sk (σ 7) n (we (σ 7) n q))))) (q := (sk (σ 7) n (we (σ 7) n q))) (e := (3 : Int32)) (pr_hl hA) hm pr_upe ((pr_upk (by decide)).trans ((pr_upk (by decide)).trans ((pr_upk (by decide)).trans h12)))) v_X8_122 (mo_k0 hm) (by decide) rfl rfl rfl (by decide) (Nat.zero_le _) (Nat.zero_le _) rfl (Nat.le_of_ble_eq_true rfl) dX8_readNode_64 ?_
        exact pr_ireturn hA rfl (pr_nb (by repeat (first | exact Or.inl rfl | exact Or.inr rfl | refine nb_ite ?_ ?_))) (Nat.zero_le _) (Nat.zero_le _) dX8_readNode_67 ⟨(by simp only [m_rn_r, if_neg c_9, if_neg c_39, if_pos c_51]), rfl, (by simp only [m_rn, if_neg c_9, if_neg c_39, if_pos c_51]), rfl⟩
      · have n_51 : ¬ 6 < ((we (σ 7) n (sk (σ 7) n (we (σ 7) n q))) - (sk (σ 7) n (we (σ 7) n q))) := fun q => c_51 ((nI_ltI (by omega) (by omega)).mpr q)
        refine pr_aload_n hA dX8_readNode_54 rfl ?_
        refine pr_callVi hA [] (c_namedE (m := m) (σ := (pr_up (pr_up (pr_up σ 0 9 (nI (we (σ 7) n q))) 0 9 (nI (sk (σ 7) n (we (σ 7) n q)))) 0 10 (nI (sk (σ 7) n (we (σ 7) n q))))) (n := n) (q := (sk (σ 7) n (we (σ 7) n q))) (fn := fn) (r := (σ 3)) (b := (σ 7)) (pr_hl hA) hm ((pr_upk (by decide)).trans ((pr_upk (by decide)).trans ((pr_upk (by decide)).trans hn))) (by omega) pr_upe (by omega) ((pr_upv (by decide)).trans ((pr_upv (by decide)).trans ((pr_upv (by decide)).trans hfn))) (by omega) ((pr_up_ne (by decide)).trans ((pr_up_ne (by decide)).trans (pr_up_ne (by decide)))) ((pr_up_ne (by decide)).trans ((pr_up_ne (by decide)).trans (pr_up_ne (by decide))))) v_X8_143 (mo_k0 hm) (by decide) rfl rfl rfl (by decide) (Nat.zero_le _) (Nat.zero_le _) rfl (Nat.le_of_ble_eq_true rfl) dX8_readNode_55 ?_
        refine pr_iconst hA ((-1)) dX8_readNode_58 (by decide) ?_
        refine pr_icmp_eq hA 68 dX8_readNode_59 (by decide) (fun c_59 => ?_) (fun c_59 => ?_)
        · refine pr_bipush hA (nI 12) dX8_readNode_68 (by decide) ?_
          refine pr_bipush hA (nI 7) dX8_readNode_70 (by decide) ?_
          refine pr_aload_n hA dX8_readNode_72 rfl ?_
          refine pr_getR hA f_X8_16 rfl (mo_k0 hm) (mo_f0_2 hm) dX8_readNode_73 ?_
          refine pr_bipush hA (nI 6) dX8_readNode_76 (by decide) ?_
          refine pr_ialdM (v := (nI fn)) hA (mo_k3 hm) (by omega) (by omega) ((rg_val (by decide)).trans ((pr_upv (by decide)).trans ((pr_upv (by decide)).trans ((pr_upv (by decide)).trans hfn)))) dX8_readNode_78 ?_
          refine pr_imul hA dX8_readNode_79 ?_
          refine pr_iadd hA dX8_readNode_80 ?_
          rw [show ((nI 12) + ((nI 7) * (nI fn))) = (nI (12 + 7 * fn)) from (nI_lin2 12 7 fn)]
          refine pr_istore_n (ls' := [_, _, _, _]) hA dX8_readNode_81 (by decide) rfl ?_
          refine pr_aload_n hA dX8_readNode_82 rfl ?_
          refine pr_getR hA f_X8_16 rfl (mo_k0 hm) (mo_f0_2 hm) dX8_readNode_83 ?_
          refine pr_iload_n hA dX8_readNode_86 rfl ?_
          refine pr_iload_n hA dX8_readNode_87 rfl ?_
          refine pr_iastM (I' := (rg_put I m 16 (pr_up (pr_up (pr_up (pr_up σ 0 9 (nI (we (σ 7) n q))) 0 9 (nI (sk (σ 7) n (we (σ 7) n q)))) 0 10 (nI (sk (σ 7) n (we (σ 7) n q)))) 3 (12 + 7 * fn) (nI ((we (σ 7) n (sk (σ 7) n (we (σ 7) n q))) - (sk (σ 7) n (we (σ 7) n q))))))) hA (mo_k3 hm) (by omega) (by omega) (rg_up (by decide)) dX8_readNode_88 ?_
          refine pr_iconst hA (nI 0) dX8_readNode_89 (by decide) ?_
          refine pr_istore_n (ls' := [_, _, _, _]) hA dX8_readNode_90 (by decide) rfl ?_
          have lp91 : ∀ (j k : Nat), ((we (σ 7) n (sk (σ 7) n (we (σ 7) n q))) - (sk (σ 7) n (we (σ 7) n q))) - k = j → k ≤ ((we (σ 7) n (sk (σ 7) n (we (σ 7) n q))) - (sk (σ 7) n (we (σ 7) n q))) → pr_G g X mX8_readNode.2.2.1 (pr_MQ g X (pr_R (some (.int (m_rn_r σ n q fn))) T (rg_put I m 16 (m_rn σ n q fn)) L) pr_no 0 0) 0 0 91 [.ref m, .int (nI ((we (σ 7) n (sk (σ 7) n (we (σ 7) n q))) - (sk (σ 7) n (we (σ 7) n q)))), .int (nI (12 + 7 * fn)), .int (nI k)] [] T (rg_put I m 16 (m_rn_it91 σ n q fn k)) L := by
            intro j
            induction j using Nat.strongRecOn with | ind j ih91 =>
            intro k hj91 hk91
            refine pr_iload_n hA dX8_readNode_91 rfl ?_
            refine pr_iload_n hA dX8_readNode_92 rfl ?_
            refine pr_icmp_ge hA 123 dX8_readNode_93 (by decide) (fun c_93 => ?_) (fun c_93 => ?_)
            · have n_93 : ((we (σ 7) n (sk (σ 7) n (we (σ 7) n q))) - (sk (σ 7) n (we (σ 7) n q))) ≤ k := (nI_leI (by omega) (by omega)).mp c_93
              have hex : ((we (σ 7) n (sk (σ 7) n (we (σ 7) n q))) - (sk (σ 7) n (we (σ 7) n q))) = k := by omega
              subst hex
              refine pr_aload_n hA dX8_readNode_123 rfl ?_
              refine pr_getR hA f_X8_16 rfl (mo_k0 hm) (mo_f0_2 hm) dX8_readNode_124 ?_
              refine pr_bipush hA (nI 6) dX8_readNode_127 (by decide) ?_
              refine pr_dup2 hA dX8_readNode_129 rfl rfl ?_
              refine pr_ialdM (v := ((m_rn_it91 σ n q fn ((we (σ 7) n (sk (σ 7) n (we (σ 7) n q))) - (sk (σ 7) n (we (σ 7) n q)))) 3 6)) hA (mo_k3 hm) (by omega) (by omega) (rg_val (by decide)) dX8_readNode_130 ?_
              rw [show ((m_rn_it91 σ n q fn ((we (σ 7) n (sk (σ 7) n (we (σ 7) n q))) - (sk (σ 7) n (we (σ 7) n q)))) 3 6) = (nI fn) from (m_rn_6 hfn _)]
              refine pr_iconst hA (1) dX8_readNode_131 (by decide) ?_
              refine pr_iaddE (v := nI (fn + 1)) hA (nI_1 _) dX8_readNode_132 ?_
              refine pr_iastM (I' := (rg_put I m 16 (pr_up (m_rn_it91 σ n q fn ((we (σ 7) n (sk (σ 7) n (we (σ 7) n q))) - (sk (σ 7) n (we (σ 7) n q)))) 3 6 (nI (fn + 1))))) hA (mo_k3 hm) (by omega) (by omega) (rg_up (by decide)) dX8_readNode_133 ?_
              refine pr_aload_n hA dX8_readNode_134 rfl ?_
              refine pr_callVi hA [] (c_passesE (m := m) (σ := (pr_up (m_rn_it91 σ n q fn ((we (σ 7) n (sk (σ 7) n (we (σ 7) n q))) - (sk (σ 7) n (we (σ 7) n q)))) 3 6 (nI (fn + 1)))) (n := n) (q := (sk (σ 7) n (we (σ 7) n q))) (b := (σ 7)) (pr_hl hA) hm ((pr_upv (by decide)).trans ((congrFun (fr_m_rn_it91 (by decide)) _).trans ((pr_upv (by decide)).trans ((pr_upk (by decide)).trans ((pr_upk (by decide)).trans ((pr_upk (by decide)).trans hn)))))) (by omega) ((pr_upv (by decide)).trans ((congrFun (fr_m_rn_it91 (by decide)) _).trans ((pr_upv (by decide)).trans pr_upe))) (by omega) ((pr_up_ne (by decide)).trans ((fr_m_rn_it91 (by decide)).trans ((pr_up_ne (by decide)).trans ((pr_up_ne (by decide)).trans ((pr_up_ne (by decide)).trans (pr_up_ne (by decide)))))))) v_X8_139 (mo_k0 hm) (by decide) rfl rfl rfl (by decide) (Nat.zero_le _) (Nat.zero_le _) rfl (Nat.le_of_ble_eq_true rfl) dX8_readNode_135 ?_
              exact pr_ireturn hA rfl (pr_nb (by repeat (first | exact Or.inl rfl | exact Or.inr rfl | refine nb_ite ?_ ?_))) (Nat.zero_le _) (Nat.zero_le _) dX8_readNode_138 ⟨(by simp only [m_rn_r, if_neg c_9, if_neg c_39, if_neg c_51, if_pos c_59]), rfl, (by simp only [m_rn, if_neg c_9, if_neg c_39, if_neg c_51, if_pos c_59]), rfl⟩
            · have n_93 : ¬ ((we (σ 7) n (sk (σ 7) n (we (σ 7) n q))) - (sk (σ 7) n (we (σ 7) n q))) ≤ k := fun q => c_93 ((nI_leI (by omega) (by omega)).mpr q)
              refine pr_aload_n hA dX8_readNode_96 rfl ?_
              refine pr_getR hA f_X8_16 rfl (mo_k0 hm) (mo_f0_2 hm) dX8_readNode_97 ?_
              refine pr_iload_n hA dX8_readNode_100 rfl ?_
              refine pr_iconst hA (1) dX8_readNode_101 (by decide) ?_
              refine pr_iaddE (v := nI ((12 + 7 * fn) + 1)) hA (nI_1 _) dX8_readNode_102 ?_
              refine pr_iload_n hA dX8_readNode_103 rfl ?_
              refine pr_iadd hA dX8_readNode_104 ?_
              rw [show ((nI ((12 + 7 * fn) + 1)) + (nI k)) = (nI ((12 + 7 * fn) + 1 + k)) from (nI_add _ _)]
              refine pr_aload_n hA dX8_readNode_105 rfl ?_
              refine pr_getR hA f_X8_29 rfl (mo_k0 hm) (mo_f0_7 hm) dX8_readNode_106 ?_
              refine pr_aload_n hA dX8_readNode_109 rfl ?_
              refine pr_getE (v := (nI (sk (σ 7) n (we (σ 7) n q)))) hA f_X8_91 rfl (mo_k0 hm) ((rg_val0 (by decide)).trans ((congrFun (fr_m_rn_it91 (by decide)) _).trans ((pr_upv (by decide)).trans pr_upe))) dX8_readNode_110 ?_
              refine pr_iload_n hA dX8_readNode_113 rfl ?_
              refine pr_iadd hA dX8_readNode_114 ?_
              rw [show ((nI (sk (σ 7) n (we (σ 7) n q))) + (nI k)) = (nI ((sk (σ 7) n (we (σ 7) n q)) + k)) from (nI_add _ _)]
              refine pr_ialdM (v := (σ 7 ((sk (σ 7) n (we (σ 7) n q)) + k))) hA (mo_k7 hm) (by omega) (by omega) ((rg_val (by decide)).trans ((congrFun (fr_m_rn_it91 (by decide)) _).trans ((pr_upv (by decide)).trans ((pr_upv (by decide)).trans ((pr_upv (by decide)).trans (pr_upv (by decide))))))) dX8_readNode_115 ?_
              refine pr_iastM (I' := (rg_put I m 16 (pr_up (m_rn_it91 σ n q fn k) 3 ((12 + 7 * fn) + 1 + k) (σ 7 ((sk (σ 7) n (we (σ 7) n q)) + k))))) hA (mo_k3 hm) (by omega) (by omega) (rg_up (by decide)) dX8_readNode_116 ?_
              refine pr_iinc (ls' := [_, _, _, _]) hA (nI (k + 1)) dX8_readNode_117 (by decide) rfl (nI_inc _) rfl ?_
              refine pr_goto hA 91 dX8_readNode_120 (by decide) ?_
              have hb := ih91 (((we (σ 7) n (sk (σ 7) n (we (σ 7) n q))) - (sk (σ 7) n (we (σ 7) n q))) - (k + 1)) (by omega) (k + 1) rfl (by omega)
              simp only [m_rn_it91] at hb
              exact hb
          exact (lp91 (((we (σ 7) n (sk (σ 7) n (we (σ 7) n q))) - (sk (σ 7) n (we (σ 7) n q))) - 0) 0 rfl (by omega))
        · refine pr_aload_n hA dX8_readNode_62 rfl ?_
          refine pr_iconst hA (3) dX8_readNode_63 (by decide) ?_
          refine pr_callVi hA [.int (3 : Int32)] (c_fails (m := m) (σ := (pr_up (pr_up (pr_up σ 0 9 (nI (we (σ 7) n q))) 0 9 (nI (sk (σ 7) n (we (σ 7) n q)))) 0 10 (nI (sk (σ 7) n (we (σ 7) n q))))) (q := (sk (σ 7) n (we (σ 7) n q))) (e := (3 : Int32)) (pr_hl hA) hm pr_upe ((pr_upk (by decide)).trans ((pr_upk (by decide)).trans ((pr_upk (by decide)).trans h12)))) v_X8_122 (mo_k0 hm) (by decide) rfl rfl rfl (by decide) (Nat.zero_le _) (Nat.zero_le _) rfl (Nat.le_of_ble_eq_true rfl) dX8_readNode_64 ?_
          exact pr_ireturn hA rfl (pr_nb (by repeat (first | exact Or.inl rfl | exact Or.inr rfl | refine nb_ite ?_ ?_))) (Nat.zero_le _) (Nat.zero_le _) dX8_readNode_67 ⟨(by simp only [m_rn_r, if_neg c_9, if_neg c_39, if_neg c_51, if_neg c_59]), rfl, (by simp only [m_rn, if_neg c_9, if_neg c_39, if_neg c_51, if_neg c_59]), rfl⟩
    · refine pr_aload_n hA dX8_readNode_42 rfl ?_
      refine pr_iconst hA (1) dX8_readNode_43 (by decide) ?_
      refine pr_callVi hA [.int (1 : Int32)] (c_fails (m := m) (σ := (pr_up (pr_up (pr_up σ 0 9 (nI (we (σ 7) n q))) 0 9 (nI (sk (σ 7) n (we (σ 7) n q)))) 0 10 (nI (sk (σ 7) n (we (σ 7) n q))))) (q := (sk (σ 7) n (we (σ 7) n q))) (e := (1 : Int32)) (pr_hl hA) hm pr_upe ((pr_upk (by decide)).trans ((pr_upk (by decide)).trans ((pr_upk (by decide)).trans h12)))) v_X8_122 (mo_k0 hm) (by decide) rfl rfl rfl (by decide) (Nat.zero_le _) (Nat.zero_le _) rfl (Nat.le_of_ble_eq_true rfl) dX8_readNode_44 ?_
      exact pr_ireturn hA rfl (pr_nb (by repeat (first | exact Or.inl rfl | exact Or.inr rfl | refine nb_ite ?_ ?_))) (Nat.zero_le _) (Nat.zero_le _) dX8_readNode_47 ⟨(by simp only [m_rn_r, if_neg c_9, if_pos c_39]), rfl, (by simp only [m_rn, if_neg c_9, if_pos c_39]), rfl⟩
  · have n_9 : fn = 12 := (nI_eq (by omega) (by omega)).mp c_9
    refine pr_aload_n hA dX8_readNode_12 rfl ?_
    refine pr_iconst hA (4) dX8_readNode_13 (by decide) ?_
    refine pr_callVi hA [.int (4 : Int32)] (c_fails (m := m) (σ := σ) (q := q) (e := (4 : Int32)) (pr_hl hA) hm hq h12) v_X8_122 (mo_k0 hm) (by decide) rfl rfl rfl (by decide) (Nat.zero_le _) (Nat.zero_le _) rfl (Nat.le_of_ble_eq_true rfl) dX8_readNode_14 ?_
    exact pr_ireturn hA rfl (pr_nb (by repeat (first | exact Or.inl rfl | exact Or.inr rfl | refine nb_ite ?_ ?_))) (Nat.zero_le _) (Nat.zero_le _) dX8_readNode_17 ⟨(by simp only [m_rn_r, if_pos c_9]), rfl, (by simp only [m_rn, if_pos c_9]), rfl⟩

theorem fr_m_rn {σ : pr_I} {n : Nat} {q : Nat} {fn : Nat} {o : Nat} (hms : ∀ m ∈ ([0, 3] : List Nat), o ≠ m) : m_rn σ n q fn o = σ o := by
  unfold m_rn
  simp only [List.mem_cons, List.not_mem_nil, or_false, forall_eq_or_imp, forall_eq] at hms
  by_cases c_9 : (nI fn) = (nI 12)
  · refine (congrFun (if_pos c_9) o).trans ?_
    rw [pr_up_ne (by omega), pr_up_ne (by omega)]
  · refine (congrFun (if_neg c_9) o).trans ?_
    by_cases c_39 : (nI ((we (σ 7) n (sk (σ 7) n (we (σ 7) n q))) - (sk (σ 7) n (we (σ 7) n q)))) = 0
    · refine (congrFun (if_pos c_39) o).trans ?_
      rw [pr_up_ne (by omega), pr_up_ne (by omega), pr_up_ne (by omega), pr_up_ne (by omega), pr_up_ne (by omega)]
    · refine (congrFun (if_neg c_39) o).trans ?_
      by_cases c_51 : (nI 6) < (nI ((we (σ 7) n (sk (σ 7) n (we (σ 7) n q))) - (sk (σ 7) n (we (σ 7) n q))))
      · refine (congrFun (if_pos c_51) o).trans ?_
        rw [pr_up_ne (by omega), pr_up_ne (by omega), pr_up_ne (by omega), pr_up_ne (by omega), pr_up_ne (by omega)]
      · refine (congrFun (if_neg c_51) o).trans ?_
        by_cases c_59 : (nmd (σ 3) (σ 7) (sk (σ 7) n (we (σ 7) n q)) ((we (σ 7) n (sk (σ 7) n (we (σ 7) n q))) - (sk (σ 7) n (we (σ 7) n q))) fn) = ((-1) : Int32)
        · refine (congrFun (if_pos c_59) o).trans ?_
          rw [pr_up_ne (by omega), pr_up_ne (by omega), fr_m_rn_it91 (by simp only [List.mem_cons, List.not_mem_nil, or_false, forall_eq_or_imp, forall_eq]; omega), pr_up_ne (by omega), pr_up_ne (by omega), pr_up_ne (by omega), pr_up_ne (by omega)]
        · refine (congrFun (if_neg c_59) o).trans ?_
          rw [pr_up_ne (by omega), pr_up_ne (by omega), pr_up_ne (by omega), pr_up_ne (by omega), pr_up_ne (by omega)]

noncomputable def iw_f (b : Nat → Int32) (n q k : Nat) : Nat → Nat → Int32 → Int32
  | 0, _, x => x
  | j + 1, i, x => if x = 0 then x else if nI (we b n q) ≤ nI (q + i) then x else iw_f b n q k j (i + 1) (if bt b n (q + i) = pr_sch k i then (1 : Int32) else (0 : Int32))
/-- whether the word at q is the k-th of the seven words -/
noncomputable def iw (b : Nat → Int32) (n q k : Nat) : Int32 := iw_f b n q k (we b n q - q + 1) 0 (if nI (we b n q - q) = nI (pr_slen.getD k 0) then (1 : Int32) else (0 : Int32))
theorem iw_nb1 {b : Nat → Int32} {n q k : Nat} : ∀ (j i : Nat) (x : Int32), x = 0 ∨ x = 1 → iw_f b n q k j i x = 0 ∨ iw_f b n q k j i x = 1
  | 0, _, _, h => h
  | j + 1, i, x, h => by
    unfold iw_f
    by_cases c1 : x = 0
    · rw [if_pos c1]; exact h
    · rw [if_neg c1]
      by_cases c2 : nI (we b n q) ≤ nI (q + i)
      · rw [if_pos c2]; exact h
      · rw [if_neg c2]
        refine iw_nb1 j (i + 1) _ ?_
        split
        · exact Or.inr rfl
        · exact Or.inl rfl
theorem ite_01 {p : Prop} [Decidable p] : (if p then (1 : Int32) else (0 : Int32)) = 0 ∨ (if p then (1 : Int32) else (0 : Int32)) = 1 := by
  split
  · exact Or.inr rfl
  · exact Or.inl rfl
theorem iw_h {a c : Nat} (ha : a < 2 ^ 31) (hc : c < 2 ^ 31) : (if nI a = nI c then (1 : Int32) else (0 : Int32)) = 0 ∨ a = c := by
  by_cases e : nI a = nI c
  · exact Or.inr ((nI_eq ha hc).mp e)
  · rw [if_neg e]; exact Or.inl rfl
set_option maxRecDepth 100000 in
set_option maxHeartbeats 400000 in
theorem c_iw {g : pr_C} {l : Launch} (hl : l.stackTraces = false) {T : pr_T} {I : pr_I} {L : pr_L} {m : Nat} {σ : pr_I} (hm : pr_Mo T m) {n : Nat} (hn : σ 0 8 = nI n) (hn7 : n ≤ 700) {q : Nat} (hq : σ 0 10 = nI q) (hqn : q ≤ n) {k : Nat} (hk : k < 7) : pr_M g l 6 0 0 mX8_isWord [.ref m, .ref (pr_ak g k)] T (rg_put I m 16 σ) L (pr_R (some (.int (iw (σ 7) n q k))) T (rg_put I m 16 σ) L) pr_no := by
  refine pr_ofG (by decide) rfl hl (Nat.le_of_ble_eq_true rfl) (fun X hA hX hXn hXt => ?_)
  subst hX
  show pr_G g X mX8_isWord.2.2.1 _ 0 0 0 [.ref m, .ref (pr_ak g k), .null, .null, .null] [] T (rg_put I m 16 σ) L
  have hw0 := we_le (b := σ 7) hqn
  have hsle := sl_le k hk
  obtain ⟨R0, hR0⟩ : ∃ R0, iw_f (σ 7) n q k ((we (σ 7) n q) - q + 1) 0 (if (nI ((we (σ 7) n q) - q)) = (nI (pr_slen.getD k 0)) then (1 : Int32) else (0 : Int32)) = R0 := ⟨_, rfl⟩
  refine pr_aload_n hA dX8_isWord_0 rfl ?_
  refine pr_callVi hA [] (c_weE (m := m) (σ := σ) (n := n) (q := q) (b := (σ 7)) (pr_hl hA) hm hn (by omega) hq (by omega) rfl) v_X8_104 (mo_k0 hm) (by decide) rfl rfl rfl (by decide) (Nat.zero_le _) (Nat.zero_le _) rfl (Nat.le_of_ble_eq_true rfl) dX8_isWord_1 ?_
  refine pr_istore_n (ls' := [_, _, _, _, _]) hA dX8_isWord_4 (by decide) rfl ?_
  refine pr_iload_n hA dX8_isWord_5 rfl ?_
  refine pr_aload_n hA dX8_isWord_6 rfl ?_
  refine pr_getE (v := (nI q)) hA f_X8_91 rfl (mo_k0 hm) ((rg_val0 (by decide)).trans hq) dX8_isWord_7 ?_
  refine pr_isub hA dX8_isWord_10 ?_
  rw [show ((nI (we (σ 7) n q)) - (nI q)) = (nI ((we (σ 7) n q) - q)) from (nI_sub hw0.1)]
  refine pr_aload_n hA dX8_isWord_11 rfl ?_
  refine pr_callTi hA [] (c_slen (pr_hl hA) hk) v_X8_108 hk rfl rfl (by decide) (Nat.zero_le _) (Nat.zero_le _) rfl (Nat.le_of_ble_eq_true rfl) dX8_isWord_12 ?_
  refine pr_join (c := (nI ((we (σ 7) n q) - q)) = (nI (pr_slen.getD k 0))) (J := 23) (st := []) (1 : Int32) (0 : Int32) inferInstance (fun kt kf => ?_) ?_
  · refine pr_icmp_ne hA 22 dX8_isWord_15 (by decide) (fun c_15 => ?_) (fun c_15 => ?_)
    · refine pr_iconst hA (0) dX8_isWord_22 (by decide) ?_
      exact kf c_15
    · refine pr_iconst hA (1) dX8_isWord_18 (by decide) ?_
      refine pr_goto hA 23 dX8_isWord_19 (by decide) ?_
      exact kt c_15
  · refine pr_istore_n (ls' := [_, _, _, _, _]) hA dX8_isWord_23 (by decide) rfl ?_
    refine pr_iconst hA (nI 0) dX8_isWord_24 (by decide) ?_
    refine pr_istore (ls' := [_, _, _, _, _]) hA dX8_isWord_25 (by decide) rfl ?_
    have lp27 : ∀ (j i : Nat) (x : Int32), (we (σ 7) n q) - q + 1 - i = j → i ≤ (we (σ 7) n q) - q → (x = 0 ∨ (we (σ 7) n q) - q = (pr_slen.getD k 0)) → iw_f (σ 7) n q k j i x = R0 → pr_G g X mX8_isWord.2.2.1 (pr_MQ g X (pr_R (some (.int (iw (σ 7) n q k))) T (rg_put I m 16 σ) L) pr_no 0 0) 0 0 27 [.ref m, .ref (pr_ak g k), .int (nI (we (σ 7) n q)), .int x, .int (nI i)] [] T (rg_put I m 16 σ) L := by
      intro j
      induction j with
      | zero => intro i x hj hi hx hR; omega
      | succ j ih =>
        intro i x hj hi hx hR
        refine pr_iload_n hA dX8_isWord_27 rfl ?_
        refine pr_if_eq hA 74 dX8_isWord_28 (by decide) (fun c_28 => ?_) (fun c_28 => ?_)
        · simp only [iw_f, if_pos c_28] at hR
          refine pr_iload_n hA dX8_isWord_74 rfl ?_
          exact pr_ireturn hA rfl (pr_nb (by rw [hR, ← hR0]; exact iw_nb1 _ _ _ ite_01)) (Nat.zero_le _) (Nat.zero_le _) dX8_isWord_75 ⟨by rw [hR, ← hR0]; rfl, rfl, rfl, rfl⟩
        · refine pr_aload_n hA dX8_isWord_31 rfl ?_
          refine pr_getE (v := (nI q)) hA f_X8_91 rfl (mo_k0 hm) ((rg_val0 (by decide)).trans hq) dX8_isWord_32 ?_
          refine pr_iload hA dX8_isWord_35 rfl ?_
          refine pr_iadd hA dX8_isWord_37 ?_
          rw [show ((nI q) + (nI i)) = (nI (q + i)) from (nI_add _ _)]
          refine pr_iload_n hA dX8_isWord_38 rfl ?_
          refine pr_icmp_ge hA 74 dX8_isWord_39 (by decide) (fun c_39 => ?_) (fun c_39 => ?_)
          · have n_39 : (we (σ 7) n q) ≤ (q + i) := (nI_leI (by omega) (by omega)).mp c_39
            simp only [iw_f, if_neg c_28, if_pos c_39] at hR
            refine pr_iload_n hA dX8_isWord_74 rfl ?_
            exact pr_ireturn hA rfl (pr_nb (by rw [hR, ← hR0]; exact iw_nb1 _ _ _ ite_01)) (Nat.zero_le _) (Nat.zero_le _) dX8_isWord_75 ⟨by rw [hR, ← hR0]; rfl, rfl, rfl, rfl⟩
          · have n_39 : ¬ (we (σ 7) n q) ≤ (q + i) := fun q => c_39 ((nI_leI (by omega) (by omega)).mpr q)
            have hsl := hx.resolve_left c_28
            refine pr_aload_n hA dX8_isWord_42 rfl ?_
            refine pr_aload_n hA dX8_isWord_43 rfl ?_
            refine pr_getE (v := (nI q)) hA f_X8_91 rfl (mo_k0 hm) ((rg_val0 (by decide)).trans hq) dX8_isWord_44 ?_
            refine pr_iload hA dX8_isWord_47 rfl ?_
            refine pr_iadd hA dX8_isWord_49 ?_
            rw [show ((nI q) + (nI i)) = (nI (q + i)) from (nI_add _ _)]
            refine pr_callVi hA [.int (nI (q + i))] (c_baE (m := m) (σ := σ) (n := n) (k := (q + i)) (b := (σ 7)) (pr_hl hA) hm hn (by omega) (by omega) rfl) v_X8_72 (mo_k0 hm) (by decide) rfl rfl rfl (by decide) (Nat.zero_le _) (Nat.zero_le _) rfl (Nat.le_of_ble_eq_true rfl) dX8_isWord_50 ?_
            refine pr_aload_n hA dX8_isWord_53 rfl ?_
            refine pr_iload hA dX8_isWord_54 rfl ?_
            refine pr_callTi hA [.int (nI i)] (c_cat (pr_hl hA) hk (by omega)) v_X8_112 hk rfl rfl (by decide) (Nat.zero_le _) (Nat.zero_le _) rfl (Nat.le_of_ble_eq_true rfl) dX8_isWord_56 ?_
            refine pr_join (c := (bt (σ 7) n (q + i)) = (pr_sch k i)) (J := 67) (st := []) (1 : Int32) (0 : Int32) inferInstance (fun kt kf => ?_) ?_
            · refine pr_icmp_ne hA 66 dX8_isWord_59 (by decide) (fun c_59 => ?_) (fun c_59 => ?_)
              · refine pr_iconst hA (0) dX8_isWord_66 (by decide) ?_
                exact kf c_59
              · refine pr_iconst hA (1) dX8_isWord_62 (by decide) ?_
                refine pr_goto hA 67 dX8_isWord_63 (by decide) ?_
                exact kt c_59
            · refine pr_istore_n (ls' := [_, _, _, _, _]) hA dX8_isWord_67 (by decide) rfl ?_
              refine pr_iinc (ls' := [_, _, _, _, _]) hA (nI (i + 1)) dX8_isWord_68 (by decide) rfl (nI_inc _) rfl ?_
              refine pr_goto hA 27 dX8_isWord_71 (by decide) ?_
              simp only [iw_f, if_neg c_28, if_neg c_39] at hR
              exact ih (i + 1) _ (by omega) (by omega) (Or.inr (hx.resolve_left c_28)) hR
    exact lp27 ((we (σ 7) n q) - q + 1) 0 _ rfl (Nat.zero_le _) (iw_h (by omega) (by omega)) hR0

theorem c_iwE {g : pr_C} {l : Launch} (hl : l.stackTraces = false) {T : pr_T} {I : pr_I} {L : pr_L} {m : Nat} {σ : pr_I} {n q k : Nat} {b : Nat → Int32} (hm : pr_Mo T m) (hn : σ 0 8 = nI n) (hn7 : n ≤ 700) (hq : σ 0 10 = nI q) (hqn : q ≤ n) (hk : k < 7) (hb : σ 7 = b) : pr_M g l 6 0 0 mX8_isWord [.ref m, .ref (pr_ak g k)] T (rg_put I m 16 σ) L (pr_R (some (.int (iw b n q k))) T (rg_put I m 16 σ) L) pr_no := by
  subst hb; exact c_iw hl hm hn hn7 hq hqn hk
