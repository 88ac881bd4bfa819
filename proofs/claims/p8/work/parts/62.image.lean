/-! CONTRACTS (printed by wip/pm/cts.py) -/
section CT37
end CT37
