# An independent reading of the document, recursive and slow.
import re
WORDS=set("class face as is in with only open kin own final bare static start void new int let if else while return throw try catch out null this super ask".split())
ACC={'own':0,'':1,'kin':2,'open':3}
class Fault(Exception):
    def __init__(s,n,p): s.n=n; s.p=p
class Fail(Exception):
    def __init__(s,n): s.n=n
class Thrown(Exception):
    def __init__(s,o): s.o=o
class Return(Exception):
    def __init__(s,v): s.v=v
class O: 
    def __init__(self_,**k): self_.__dict__.update(k)
SIGNS=['==','{','}','(',')',',',';','.','=','<','+','-','*']
def lex(t):
    toks=[];i=0
    while i<len(t):
        if t[i] in ' \n': i+=1; continue
        m=re.compile(r'[a-z]\.[A-Z][a-zA-Z0-9]*').match(t,i)
        if m: toks.append(('C' if len(m.group())<=11 else 'BAD',m.group(),i)); i=m.end(); continue
        m=re.compile(r'[a-z][a-zA-Z0-9]*').match(t,i)
        if m:
            w=m.group(); toks.append(('BAD' if len(w)>10 else w if w in WORDS else 'NAME',w,i)); i=m.end(); continue
        m=re.compile(r'[0-9]+').match(t,i)
        if m: toks.append(('BAD' if len(m.group())>9 else 'NUM',m.group(),i)); i=m.end(); continue
        for s in SIGNS:
            if t.startswith(s,i): toks.append((s,s,i)); i+=len(s); break
        else:
            toks.append(('BAD',t[i],i)); i+=1
    toks.append(('END','',len(t)))
    return toks
EB={'NUM','null','this','NAME','C','super','new','('}
SB=EB|{'{','let','if','while','return','throw','try','out'}
class Parser:
    def __init__(s,t): s.t=lex(t); s.i=0; s.classes=[]
    def k(s,d=0): return s.t[min(s.i+d,len(s.t)-1)][0]
    def v(s): return s.t[s.i][1]
    def p(s): return s.t[s.i][2]
    def miss(s): raise Fault(1 if s.k()=='BAD' else 2,s.p())
    def much(s): raise Fault(3,s.p())
    def take(s):
        if s.i>=700: s.much()
        s.i+=1; return s.t[s.i-1]
    def need(s,*ks):
        if s.k() not in ks: s.miss()
        return s.take()
    def text(s):
        while s.k()!='END': s.cls()
        return s.classes
    def cls(s):
        c=O(open=False,final=False,bare=False,is_=None,as_=[],in_=None,with_=[],only=[],items=[],ist=None,ast=[],int=None,witht=[],onlyt=[])
        if s.k()=='open': s.take(); c.open=True
        if s.k() in('final','bare'):
            setattr(c,s.take()[0],True); s.need('class'); c.sort='class'
        else: c.sort=s.need('class','face')[0]
        if s.k()!='C': s.miss()
        if len(s.classes)==12: s.much()
        t=s.take(); c.name=t[1]; c.place=t[2]; s.classes.append(c)
        if s.k()=='is': s.take(); t=s.need('C'); c.is_=t[1]; c.ist=t[2]
        for w,l,lt,n in(('as',c.as_,c.ast,4),('in',None,None,1),('with',c.with_,c.witht,8),('only',c.only,c.onlyt,8)):
            if s.k()!=w: continue
            s.take()
            if w=='in': t=s.need('C'); c.in_=t[1]; c.int=t[2]; continue
            while 1:
                if s.k()!='C': s.miss()
                if len(l)==n: s.much()
                t=s.take(); l.append(t[1]); lt.append(t[2])
                if s.k()!=',': break
                s.take()
        s.need('{')
        while s.k()!='}': s.member(c)
        s.take()
    def member(s,c):
        if s.k() not in('open','kin','own','static','final','bare','int','C','void','new','start'): s.miss()
        if len(c.items)==20: s.much()
        m=O(kind='',acc=1,static=False,final=False,bare=False,bridge=False,block=None,e=None,params=[],type=None,name='',cls=c,const=None,toks=(),default=False,ptok=[])
        c.items.append(m)
        if s.k()=='start':
            m.kind='start'; m.place=s.take()[2]; s.body(m); return
        if s.k() in('open','kin','own'): m.acc=ACC[s.take()[0]]
        if s.k()=='new':
            m.kind='maker'; m.place=s.take()[2]; s.params(m); s.body(m); return
        if s.k()=='static': s.take(); m.static=True
        if s.k() in('final','bare'): setattr(m,s.take()[0],True)
        m.tplace=s.p(); m.type=s.need('int','C','void')[1]
        t=s.need('NAME'); m.name=t[1]; m.place=t[2]
        if s.k()=='(':
            m.kind='method'; s.params(m)
            if s.k()=='{': s.body(m)
            else: s.need(';')
        else:
            if m.type=='void': s.miss()
            m.kind='field'
            if s.k()=='=':
                s.take(); a=s.i; m.e=s.expr(0); m.toks=tuple(x[1] for x in s.t[a:s.i])
            s.need(';')
    def params(s,m):
        s.need('(')
        if s.k()!=')':
            while 1:
                if s.k() not in('int','C'): s.miss()
                if len(m.params)==4: s.much()
                t=s.take(); n=s.need('NAME'); m.params.append(t[1]); m.ptok.append((t[2],n[1],n[2]))
                if s.k()!=',': break
                s.take()
        s.need(')')
    def body(s,m):
        a=s.i; m.block=s.block(0); m.toks=tuple(x[1] for x in s.t[a:s.i])
    def block(s,d):
        if s.k()!='{': s.miss()
        if d>=12: s.much()
        n=O(k='block',p=s.p(),s=[]); s.take()
        while s.k()!='}': n.s.append(s.stmt(d+1))
        s.take(); return n
    def stmt(s,d):
        k=s.k()
        if k not in SB: s.miss()
        if d>=12: s.much()
        if k=='{': return s.block(d)
        p=s.p()
        if k=='let':
            s.take(); T=s.need('int','C'); n=s.need('NAME'); s.need('='); e=s.expr(d+1); s.need(';')
            return O(k='let',p=p,T=T[1],tp=T[2],n=n[1],np=n[2],e=e)
        if k=='if' or k=='while':
            s.take(); s.need('('); e=s.expr(d+1); s.need(')'); b=s.stmt(d+1); c=None
            if k=='if' and s.k()=='else': s.take(); c=s.stmt(d+1)
            return O(k=k,p=p,e=e,b=b,c=c)
        if k=='return':
            s.take(); e=None
            if s.k()!=';': e=s.expr(d+1)
            s.need(';'); return O(k=k,p=p,e=e)
        if k in('throw','out'):
            s.take(); e=s.expr(d+1); s.need(';'); return O(k=k,p=p,e=e)
        if k=='try':
            s.take(); b=s.block(d+1); s.need('catch'); s.need('('); C=s.need('C'); n=s.need('NAME'); s.need(')'); c=s.block(d+1)
            return O(k=k,p=p,b=b,c=c,C=C[1],cp=C[2],n=n[1],np=n[2])
        if k=='super' and s.k(1)=='(':
            s.take(); a=s.args(d+1); s.need(';'); return O(k='superm',p=p,a=a)
        e=s.expr(d+1)
        if s.k()=='=':
            s.take(); r=s.expr(d+1); s.need(';'); return O(k='put',p=p,l=e,e=r)
        s.need(';'); return O(k='do',p=p,e=e)
    def args(s,d):
        s.need('('); a=[]
        if s.k()!=')':
            while 1:
                a.append(s.expr(d))
                if s.k()!=',': break
                s.take()
        s.need(')'); return a
    def expr(s,d):
        if s.k() not in EB: s.miss()
        if d>=12: s.much()
        l=s.sum(d+1)
        if s.k() in('<','=='):
            o=s.take()[0]; r=s.sum(d+1); l=O(k='bin',o=o,l=l,r=r,p=l.p)
        return l
    def sum(s,d):
        l=s.prod(d)
        while s.k() in('+','-'):
            o=s.take()[0]; r=s.prod(d); l=O(k='bin',o=o,l=l,r=r,p=l.p)
        return l
    def prod(s,d):
        l=s.unit(d)
        while s.k()=='*':
            o=s.take()[0]; r=s.unit(d); l=O(k='bin',o=o,l=l,r=r,p=l.p)
        return l
    def unit(s,d):
        e=s.first(d)
        while s.k() in('.','ask'):
            if s.take()[0]=='ask':
                C=s.need('C'); e=O(k='ask',e=e,C=C[1],cp=C[2],p=e.p)
            else:
                n=s.need('NAME')
                if s.k()=='(': e=O(k='ecall',e=e,n=n[1],np=n[2],a=s.args(d),p=e.p)
                else: e=O(k='efield',e=e,n=n[1],np=n[2],p=e.p)
        return e
    def first(s,d):
        k=s.k(); p=s.p()
        if k not in EB: s.miss()
        t=s.take()
        if k=='NUM': return O(k='num',v=int(t[1]),p=p)
        if k in('null','this'): return O(k=k,p=p)
        if k=='NAME':
            if s.k()=='(': return O(k='call',n=t[1],np=p,a=s.args(d),p=p)
            return O(k='name',n=t[1],np=p,p=p)
        if k=='C':
            s.need('.')
            if s.k()=='super':
                sp=s.p(); s.take(); s.need('.'); n=s.need('NAME'); a=s.args(d)
                return O(k='csuper',C=t[1],cp=p,sp=sp,n=n[1],np=n[2],a=a,p=p)
            n=s.need('NAME')
            if s.k()=='(': return O(k='ccall',C=t[1],cp=p,n=n[1],np=n[2],a=s.args(d),p=p)
            return O(k='cfield',C=t[1],cp=p,n=n[1],np=n[2],p=p)
        if k=='super':
            s.need('.'); n=s.need('NAME'); a=s.args(d)
            return O(k='super',sp=p,n=n[1],np=n[2],a=a,p=p)
        if k=='new':
            C=s.need('C'); a=s.args(d); return O(k='new',C=C[1],cp=C[2],a=a,p=p)
        if s.k()=='C' and s.k(1)==')':
            C=s.take(); s.take()
            if s.k() not in EB: s.miss()
            if d>=12: s.much()
            e=s.unit(d+1); return O(k='cast',C=C[1],cp=C[2],e=e,p=p)
        e=s.expr(d); s.need(')'); return O(k='paren',e=e,p=p)

def mk(kind,cls,**kw):
    m=O(kind=kind,acc=3,static=False,final=False,bare=False,bridge=False,block=None,e=None,params=[],type=None,name='',cls=cls,const=None,toks=(),default=False,ptok=[],place=0)
    m.__dict__.update(kw); return m
def builtin():
    a=O(name='z.Any',open=True,sort='class',final=False,bare=False,is_=None,as_=[],in_=None,with_=[],only=[],items=[],members=[],uses=[],build=None)
    a.members=[mk('maker',a,default=True)]
    i=O(name='z.Ill',open=True,sort='class',final=False,bare=False,is_='z.Any',as_=[],in_=None,with_=[],only=[],items=[],members=[],uses=[],build=None)
    i.members=[mk('field',i,type='int',name='code'),mk('maker',i,default=True)]
    return [a,i]
BUILTIN=builtin()
INT32=lambda v:((v+2**31)%2**32)-2**31
class World:
    def __init__(s,groups):
        s.list=list(BUILTIN); s.by={}
        for c in BUILTIN: s.by[c.name]=c
        for g in groups:
            for c in g:
                if c.name not in s.by: s.by[c.name]=c; s.list.append(c)
    def get(s,n): return s.by.get(n)
    def parent(s,c):
        if c.sort=='face' or c.name=='z.Any': return None
        return s.get(c.is_ or 'z.Any')
    def parents(s,c):
        r=[];p=s.parent(c)
        while p is not None and p not in r: r.append(p); p=s.parent(p)
        return r
    def faces(s,c): return [f for f in (s.get(n) for n in c.as_) if f]
    def allfaces(s,c):
        r=[];done=set()
        def go(x):
            if x.name in done: return
            done.add(x.name)
            for f in s.faces(x):
                if f not in r: r.append(f)
                go(f)
            p=s.parent(x)
            if p: go(p)
        go(c); return r
    def heirs_of(s,c):
        r=set();w=[c]
        while w:
            x=w.pop()
            for y in s.faces(x)+([s.parent(x)] if s.parent(x) else []):
                if y.name not in r: r.add(y.name); w.append(y)
        return r
    def heir(s,a,b): return b.name in s.heirs_of(a)
    def clet(s,c,d): return c.open or c.name[0]==d.name[0]
    def nest(s,x):
        if x.in_ is None: return x
        h=s.get(x.in_)
        if h and h.name[0]==x.name[0] and x.name in h.with_: return h
        return x
    def mlet(s,m,k,c,d,nest=None):
        nest=nest or s.nest
        same=d.name[0]==k.name[0]
        if m.acc==3: return True
        if m.acc==1: return same
        if m.acc==2: return same or ((d is k or s.heir(d,k)) and (m.static or c is d or s.heir(c,d) or s.heir(d,c)))
        if d is k: return True
        a=nest(d); b=nest(k); return a is b
    def fits(s,a,b):
        if 'void' in(a,b): return False
        if a==b: return True
        if 'int' in(a,b): return False
        if a=='null': return True
        x=s.get(a);y=s.get(b)
        if not x or not y: return False
        return s.heir(x,y) or (x.sort=='face' and b=='z.Any')
    def field(s,x,n,t=None,seen=None):
        seen=[] if seen is None else seen
        if x in seen: return None
        seen.append(x)
        for m in x.members:
            if m.kind=='field' and m.name==n and (t is None or m.type==t): return (x,m)
        for y in s.faces(x):
            r=s.field(y,n,t,seen)
            if r: return r
        p=s.parent(x)
        return s.field(p,n,t,seen) if p else None
    def meth(s,x,sig):
        for m in x.members:
            if m.kind=='method' and (m.name,m.params,m.type)==sig: return m
    def overrides(s,nc,mc,sig):
        n=s.meth(nc,sig);m=s.meth(mc,sig)
        if not n or not m or n.static or m.static or n.acc==0 or m.acc==0: return False
        ps=s.parents(nc)
        if mc not in ps or mc is nc: return False
        if m.acc>=2 or nc.name[0]==mc.name[0]: return True
        for b in ps[:ps.index(mc)]:
            if b is nc: break
            if s.overrides(nc,b,sig) and s.overrides(b,mc,sig): return True
        return False
    def special(s,x,sig):
        fs=[f for f in s.allfaces(x)]
        if x.sort=='face' and x not in fs: fs=[x]+fs
        c=[(f,s.meth(f,sig)) for f in fs]
        c=[(f,m) for f,m in c if m and not m.static and m.acc!=0]
        return [(f,m) for f,m in c if not any(g is not f and s.heir(g,f) for g,_ in c)]
    def selected(s,m,k,r):
        if m.acc==0: return (k,m)
        sig=(m.name,m.params,m.type)
        for x in [r]+s.parents(r):
            n=s.meth(x,sig)
            if n and not n.static and n.acc!=0 and (n is m or k.sort=='face' or s.overrides(x,k,sig)):
                return (x,n) if not n.bare else 6
        g=[q for q in s.special(r,sig) if not q[1].bare]
        return g[0] if len(g)==1 else 3 if len(g)>1 else 6

class Judge:
    def __init__(s,cs,w): s.cs=cs; s.w=w
    def run(s):
        s.heads(); s.mems(); s.nine(); s.bridges(); s.ten(); s.consts(); s.bodies(); s.uses()
    def heads(s):
        w=s.w; seen=set(); own={}
        for c in s.cs: own.setdefault(c.name,c)
        for c in s.cs:
            if c.name in seen or c.name[0]=='z': raise Fault(4,c.place)
            seen.add(c.name)
            if c.is_:
                p=w.get(c.is_)
                if c.sort=='face' or not p or p.sort=='face' or not w.clet(p,c) or p.final or (p.only and c.name not in p.only): raise Fault(5,c.ist)
            for i,f in enumerate(c.as_):
                p=w.get(f)
                if not p or p.sort!='face' or not w.clet(p,c) or (p.only and c.name not in p.only) or f in c.as_[:i]: raise Fault(5,c.ast[i])
            if c.in_:
                h=own.get(c.in_)
                if not h or h.name[0]!=c.name[0] or c.name not in h.with_: raise Fault(5,c.int)
            for i,f in enumerate(c.with_):
                h=own.get(f)
                if not h or h.in_!=c.name: raise Fault(5,c.witht[i])
            for i,f in enumerate(c.only):
                if f not in own: raise Fault(5,c.onlyt[i])
        for c in s.cs:
            if w.heir(c,c): raise Fault(5,c.place)
    def tlet(s,t,c,p):
        if t in('int','void',None): return
        x=s.w.get(t)
        if not x or not s.w.clet(x,c): raise Fault(7,p)
    def mems(s):
        for c in s.cs:
            c.members=[]
            for m in c.items:
                if c.sort=='class':
                    if m.kind=='method':
                        if m.bare and m.block or not m.bare and not m.block: raise Fault(8,m.place)
                        if m.bare and (m.acc==0 or m.static or not c.bare): raise Fault(8,m.place)
                    if m.kind=='field' and m.bare: raise Fault(8,m.place)
                else:
                    if m.kind in('maker','start'): raise Fault(8,m.place)
                    if m.kind=='field' and (m.bare or m.acc in(0,2) or m.e is None): raise Fault(8,m.place)
                    if m.kind=='method' and (m.acc==2 or m.final or m.bare and m.block or not m.block and (m.static or m.acc==0)): raise Fault(8,m.place)
                    if m.kind=='field': m.acc=3; m.static=m.final=True
                    else:
                        if m.acc==1: m.acc=3
                        if not m.block: m.bare=True
                if m.kind in('field','method'): s.tlet(m.type,c,m.tplace)
                for T,(tp,_,_2) in zip(m.params,m.ptok): s.tlet(T,c,tp)
                if m.kind=='start': continue
                for o in c.members:
                    if o.kind==m.kind and o.name==m.name and (m.kind=='field' or o.params==m.params): raise Fault(6,m.place)
                c.members.append(m)
    def above(s,n,c):
        for k in s.w.parents(c)+s.w.allfaces(c):
            for m in k.members:
                if m.kind=='method' and not m.bridge and m.name==n.name and m.params==n.params and m.acc!=0 and (m.acc>=2 or k.name[0]==c.name[0]) and not(m.static and k.sort=='face'):
                    yield k,m
    def nine(s):
        for c in s.cs:
            for n in c.members:
                if n.kind!='method': continue
                for k,m in s.above(n,c):
                    if m.static!=n.static: raise Fault(9,n.place)
                    if not m.static and (m.final or m.acc>n.acc or m.type!=n.type and not s.w.fits(n.type,m.type)): raise Fault(9,n.place)
    def bridges(s):
        for c in s.cs:
            if c.sort=='class' and not any(m.kind=='maker' for m in c.members):
                c.members.append(mk('maker',c,acc=3 if c.open else 1,default=True,place=c.place))
            nb=0
            for n in list(c.members):
                if n.kind!='method' or n.static or n.acc==0 or n.bare: continue
                for k,m in s.above(n,c):
                    if m.static or m.type==n.type: continue
                    if any(b.kind=='method' and (b.name,b.params,b.type)==(n.name,n.params,m.type) for b in c.members): continue
                    nb+=1
                    if nb>12: raise Fault(3,c.place)
                    c.members.append(mk('method',c,acc=n.acc,bridge=True,name=n.name,params=list(n.params),type=m.type,target=n))
    def ten(s):
        for c in s.cs:
            if c.bare or c.sort=='face': continue
            for k in s.w.parents(c)+s.w.allfaces(c):
                for m in k.members:
                    if m.kind=='method' and not m.static and m.acc!=0 and not m.bridge and isinstance(s.w.selected(m,k,c),int): raise Fault(10,c.place)
    def consts(s):
        for c in s.cs:
            for m in c.members:
                if m.kind=='field' and m.static and m.final and m.type=='int' and m.e: m.const=s.fold(m.e,c)
    def fold(s,e,d):
        w=s.w
        if e.k=='num': return INT32(e.v)
        if e.k=='paren': return s.fold(e.e,d)
        if e.k=='bin':
            a=s.fold(e.l,d); b=s.fold(e.r,d)
            if a is None or b is None: return None
            return INT32({'+':a+b,'-':a-b,'*':a*b,'<':int(a<b),'==':int(a==b)}[e.o])
        if e.k in('name','cfield'):
            c=d if e.k=='name' else w.get(e.C)
            if not c or not w.clet(c,d): return None
            r=w.field(c,e.n)
            if not r or r[1].const is None or not w.mlet(r[1],r[0],c,d): return None
            return r[1].const
        return None
    # bodies
    def bodies(s):
        for c in s.cs:
            s.d=c
            for m in c.items:
                s.m=m; s.static=m.static or m.kind=='start'; s.loc=[]
                if m.kind=='field':
                    if m.e: s.ex(m.e); s.want(m.e,m.type)
                    continue
                for T,(_,n,p) in zip(m.params,m.ptok): s.know(n,T,p)
                if m.kind=='maker':
                    if not(m.block.s and m.block.s[0].k=='superm'):
                        m.sup=s.maker(s.w.parent(c),[])
                        if not m.sup: raise Fault(18,m.place)
                if m.block: s.st(m.block)
                if m.kind=='method' and m.block and m.type!='void' and s.ends(m.block): raise Fault(17,m.place)
            for m in c.members:
                if m.kind=='maker' and m.default:
                    m.sup=s.maker(s.w.parent(c),[])
                    if not m.sup: raise Fault(18,c.place)
    def know(s,n,T,p):
        if any(x[0]==n for x in s.loc): raise Fault(16,p)
        s.loc.append((n,T))
    def ends(s,x):
        if x.k in('return','throw'): return False
        if x.k=='block': return all(s.ends(y) for y in x.s)
        if x.k=='if': return x.c is None or s.ends(x.b) or s.ends(x.c)
        if x.k=='try': return s.ends(x.b) or s.ends(x.c)
        return True
    def C(s,n,p):
        x=s.w.get(n)
        if not x or not s.w.clet(x,s.d): raise Fault(7,p)
        return x
    def want(s,e,T):
        if not s.w.fits(e.t,T): raise Fault(13,e.p)
    def st(s,x):
        k=len(s.loc)
        if x.k=='block':
            for y in x.s: s.st(y)
            del s.loc[k:]
        elif x.k=='let':
            if x.T!='int': s.C(x.T,x.tp)
            s.ex(x.e); s.want(x.e,x.T); s.know(x.n,x.T,x.np)
        elif x.k in('if','while'):
            s.ex(x.e); s.want(x.e,'int'); s.st(x.b); del s.loc[k:]
            if x.c: s.st(x.c); del s.loc[k:]
        elif x.k=='return':
            if x.e: s.ex(x.e)
            m=s.m
            if m.kind=='start' or m.kind=='maker' and x.e or m.kind=='method' and (m.type=='void')==bool(x.e): raise Fault(17,x.p)
            if x.e: s.want(x.e,m.type)
        elif x.k=='throw': s.ex(x.e); s.want(x.e,'z.Ill')
        elif x.k=='out': s.ex(x.e); s.want(x.e,'int')
        elif x.k=='try':
            s.st(x.b); s.C(x.C,x.cp)
            if not s.w.fits(x.C,'z.Ill'): raise Fault(13,x.cp)
            s.know(x.n,x.C,x.np); s.st(x.c); del s.loc[k:]
        elif x.k=='superm':
            for a in x.a: s.ex(a)
            if s.m.kind!='maker' or s.m.block.s[0] is not x: raise Fault(18,x.p)
            x.m=s.maker(s.w.parent(s.d),x.a)
            if not x.m: raise Fault(18,x.p)
        elif x.k=='put':
            s.ex(x.l); s.ex(x.e); l=x.l
            if l.k not in('name','cfield','efield'): raise Fault(15,x.p)
            if l.f:
                K,f=l.f
                if f.final:
                    ok=K is s.d and (s.m.kind=='start' if f.static else s.m.kind=='maker')
                    if not ok: raise Fault(15,x.p)
            s.want(x.e,l.t)
        elif x.k=='do':
            s.ex(x.e)
            if x.e.k not in('call','ccall','ecall','super','csuper','new'): raise Fault(19,x.p)
        else: raise 1
    def cands(s,X,n,args,makers=False):
        w=s.w; out=[]
        places=[X] if makers else [X]+w.parents(X)+w.allfaces(X)
        for K in places:
            for m in K.members:
                if makers and m.kind!='maker' or not makers and (m.kind!='method' or m.name!=n or m.bridge): continue
                if m.static and K.sort=='face' and K is not X: continue
                if len(m.params)!=len(args) or not w.mlet(m,K,X,s.d): continue
                if not all(w.fits(a.t,p) for a,p in zip(args,m.params)): continue
                if any(o.params==m.params for o in out): continue
                out.append(m)
        for m in out:
            if all(all(w.fits(a,b) for a,b in zip(m.params,o.params)) for o in out): return m
    def maker(s,X,args): return s.cands(X,None,args,True) if X else None
    def meth(s,e,X):
        m=s.cands(X,e.n,e.a) if X else None
        if not m: raise Fault(12,e.np)
        e.m=m; e.t=m.type; e.X=X
    def fld(s,e,X):
        r=s.w.field(X,e.n) if X else None
        if not r or not s.w.mlet(r[1],r[0],X,s.d): raise Fault(11,e.np)
        e.f=r; e.t=r[1].type; e.X=X
    def ex(s,e):
        k=e.k; w=s.w
        if k=='num': e.t='int'
        elif k=='null': e.t='null'
        elif k=='this':
            e.t=s.d.name
            if s.static: raise Fault(14,e.p)
        elif k=='paren': s.ex(e.e); e.t=e.e.t
        elif k=='name':
            e.f=None
            for n,T in s.loc:
                if n==e.n: e.t=T; return
            s.fld(e,s.d)
            if s.static and not e.f[1].static: raise Fault(14,e.np)
        elif k=='call':
            for a in e.a: s.ex(a)
            s.meth(e,s.d)
            if s.static and not e.m.static: raise Fault(14,e.np)
        elif k=='cfield':
            s.fld(e,s.C(e.C,e.cp))
            if not e.f[1].static: raise Fault(14,e.np)
        elif k=='ccall':
            X=s.C(e.C,e.cp)
            for a in e.a: s.ex(a)
            s.meth(e,X)
            if not e.m.static: raise Fault(14,e.np)
        elif k in('super','csuper'):
            X=s.C(e.C,e.cp) if k=='csuper' else w.parent(s.d)
            for a in e.a: s.ex(a)
            if k=='csuper' and e.C not in s.d.as_ or k=='super' and s.d.sort=='face': raise Fault(12,e.np)
            s.meth(e,X)
            if e.m.bare: raise Fault(12,e.np)
            if s.static: raise Fault(14,e.sp)
            if e.m.static: raise Fault(14,e.np)
        elif k=='new':
            X=s.C(e.C,e.cp)
            for a in e.a: s.ex(a)
            e.t=e.C
            if X.sort=='face' or X.bare: raise Fault(18,e.cp)
            e.m=s.maker(X,e.a)
            if not e.m: raise Fault(18,e.cp)
        elif k=='cast':
            s.C(e.C,e.cp); s.ex(e.e); e.t=e.C
            if e.e.t in('int','void'): raise Fault(13,e.e.p)
        elif k=='ask':
            s.ex(e.e); s.C(e.C,e.cp); e.t='int'
            if e.e.t in('int','void'): raise Fault(13,e.p)
        elif k in('efield','ecall'):
            s.ex(e.e)
            if k=='ecall':
                for a in e.a: s.ex(a)
            if e.e.t in('int','void','null'): raise Fault(13,e.e.p)
            X=w.get(e.e.t)
            if k=='efield':
                s.fld(e,X)
                if e.f[1].static: raise Fault(14,e.np)
            else:
                s.meth(e,X)
                if e.m.static: raise Fault(14,e.np)
        elif k=='bin':
            s.ex(e.l); s.ex(e.r); e.t='int'
            if e.o=='==':
                if e.l.t=='void': raise Fault(13,e.l.p)
                if e.r.t=='void' or (e.r.t=='int')!=(e.l.t=='int'): raise Fault(13,e.r.p)
            else: s.want(e.l,'int'); s.want(e.r,'int')
        else: raise 1
    # uses
    def U(s,*u):
        u=tuple(u)
        if u not in s.d.uses: s.d.uses.append(u)
        return u
    def F(s,a,b):
        if a in('int','void','null') or b in('int','void') or a==b or b=='z.Any': return
        s.U(17,a,b)
    def uses(s):
        for c in s.cs:
            s.d=c; c.uses=[]
            if c.is_: s.U(18,c.is_)
            for f in c.as_: s.U(19,f)
            for m in c.items: s.umem(m)
            for m in c.members:
                if m.kind=='maker' and m.default: s.umem(m)
                if m.bridge: bridge_uses(s,m)
    def umem(s,m):
        s.m=m
        if m.kind=='field':
            if m.e:
                s.ue(m.e); s.F(m.e.t,m.type)
        elif m.kind=='maker':
            b=m.block.s if m.block else []
            if not(b and b[0].k=='superm') and s.w.parent(s.d).name!='z.Any': m.supuse=s.U(2,s.d.is_,tuple(m.sup.params))
            for x in b: s.us(x)
        elif m.block: s.us(m.block)
    def uargs(s,a,m):
        for e,T in zip(a,m.params): s.ue(e); s.F(e.t,T)
    def us(s,x):
        k=x.k
        if k=='block':
            for y in x.s: s.us(y)
        elif k=='let': s.ue(x.e); s.F(x.e.t,x.T)
        elif k in('if','while'):
            s.ue(x.e); s.us(x.b)
            if x.c: s.us(x.c)
        elif k=='return':
            if x.e: s.ue(x.e); s.F(x.e.t,s.m.type)
        elif k=='throw': s.ue(x.e); s.F(x.e.t,'z.Ill')
        elif k=='out' or k=='do': s.ue(x.e)
        elif k=='try': s.us(x.b); x.u=s.U(15,x.C); s.us(x.c)
        elif k=='superm':
            s.uargs(x.a,x.m)
            if s.w.parent(s.d).name!='z.Any': x.u=s.U(2,s.d.is_,tuple(x.m.params))
        elif k=='put':
            l=x.l
            if l.k=='efield': s.ue(l.e)
            s.ue(x.e); s.F(x.e.t,l.t)
            if l.f:
                f=l.f[1]; l.u=s.U(6 if f.static else 4,l.X.name,f.name,f.type)
    def ue(s,e):
        k=e.k
        if k in('name','cfield','efield'):
            if k=='efield': s.ue(e.e)
            if e.f:
                f=e.f[1]
                if f.const is not None and k!='efield': e.copy=f.const; e.u=s.U(16,e.X.name,f.name,f.const)
                else: e.copy=None; e.u=s.U(5 if f.static else 3,e.X.name,f.name,f.type)
        elif k in('call','ccall','ecall','super','csuper'):
            if k=='ecall': s.ue(e.e)
            m=e.m; s.uargs(e.a,m)
            fc=e.X.sort=='face'
            n=11 if k=='super' else 12 if k=='csuper' else (10 if fc else 9) if m.static else (8 if fc else 7)
            e.u=s.U(n,e.X.name,m.name,tuple(m.params),m.type)
        elif k=='new':
            e.u1=s.U(1,e.C); s.uargs(e.a,e.m); e.u2=s.U(2,e.C,tuple(e.m.params))
        elif k=='cast': s.ue(e.e); e.u=s.U(13,e.C)
        elif k=='ask': s.ue(e.e); e.u=s.U(14,e.C)
        elif k=='bin': s.ue(e.l); s.ue(e.r)
        elif k=='paren': s.ue(e.e)
def bridge_uses(s,m):
    f=s.d.sort=='face'
    m.u=s.U((10 if f else 9) if m.static else (8 if f else 7),s.d.name,m.name,tuple(m.params),m.target.type)
    s.F(m.target.type,m.type)

class Loader:
    def __init__(s,w): s.w=w; s.ev=[]; s.load={}; s.lk={}; s.start={}; s.found=None; s.looked=[]
    def num(s,c): return s.w.list.index(c)
    def event(s,c,k): s.ev.append(100*s.num(c)+k)
    def loaded(s,x):
        if x in BUILTIN: return 0
        if x.name in s.load:
            v=s.load[x.name]; return 10 if v=='ing' else v
        s.load[x.name]='ing'
        f=s._load(x)
        s.load[x.name]=f; s.event(x,5 if f else 1); return f
    def _load(s,x):
        l=[]
        if x.sort!='face': l.append((x.is_ or 'z.Any','class'))
        l+=[(f,'face') for f in x.as_]
        for n,sort in l:
            p=s.w.get(n)
            if not p: return 1
            f=s.loaded(p)
            if f: return f
            if p.sort!=sort: return 3
            if not s.w.clet(p,x): return 2
            if sort=='class' and p.final: return 3
            if p.only and x.name not in p.only: return 3
        return 0
    def linked(s,x):
        if x in BUILTIN: return 0
        f=s.loaded(x)
        if f: return f
        if x.name in s.lk: return s.lk[x.name]
        f=s._link(x); s.lk[x.name]=f; s.event(x,6 if f else 2); return f
    def _link(s,x):
        w=s.w
        for p in ([w.parent(x)] if w.parent(x) else [])+w.faces(x):
            f=s.linked(p)
            if f: return f
        if x.sort=='class':
            for n in x.members:
                if n.kind!='method' or n.static or n.acc==0: continue
                sig=(n.name,n.params,n.type)
                for p in w.parents(x):
                    m=w.meth(p,sig)
                    if m and m.final and w.overrides(x,p,sig): return 3
        for u in x.uses:
            if u[0]==17: f=s.fit(u)
            elif u[0]==15: f=s.catch(u)[0]
            else: continue
            if f: return f
        return 0
    def cls(s,n):
        c=s.w.get(n)
        if not c: return 1,None
        return s.loaded(c),c
    def fit(s,u):
        f,b=s.cls(u[2])
        if f: return f
        if b.sort=='face': return 0
        f,a=s.cls(u[1])
        if f: return f
        return 0 if a is b or s.w.heir(a,b) else 11
    def catch(s,u):
        f,c=s.cls(u[1])
        if f: return f,c
        ill=BUILTIN[1]
        return (0 if c is ill or s.w.heir(c,ill) else 11),c
    def nest(s,x):
        if x.in_ is None: return x
        h=s.w.get(x.in_)
        if h and s.loaded(h)==0 and h.name[0]==x.name[0] and x.name in h.with_: return h
        return x
    def mlet(s,m,k,c,d): return s.w.mlet(m,k,c,d,s.nest)
    def stale(s,u):
        c=s.w.get(u[1])
        r=s.w.field(c,u[2],'int') if c else None
        return 0 if r and r[1].const==u[3] and r[1].const is not None else 17
    def ask(s,d,u):
        s.found=None; s.looked=[]; s.C=None
        w=s.w; k=u[0]
        if k==16: return s.stale(u)
        f=s.loaded(d)
        if f: return f
        if k==17: return s.fit(u)
        if k==15:
            f,c=s.catch(u); s.C=c
            return f or (0 if w.clet(c,d) else 2)
        f,c=s.cls(u[1]); s.C=c
        if f: return f
        if not w.clet(c,d): return 2
        if k==1: return 7 if c.sort=='face' or c.bare else 0
        if k==2:
            if c.sort=='face': return 3
            s.looked=[c]
            for m in c.members:
                if m.kind=='maker' and tuple(m.params)==u[2]:
                    s.found=(c,m); return 0 if s.mlet(m,c,c,d) else 2
            return 5
        if k in(3,4,5,6):
            r=w.field(c,u[2],u[3],s.looked)
            if not r: return 4
            s.found=r; K,m=r
            if not s.mlet(m,K,c,d): return 2
            if m.static!=(k in(5,6)): return 3
            if k in(4,6) and m.final and K is not d: return 2
            return 0
        if k in range(7,13):
            if (c.sort=='face')!=(k in(8,10,12)): return 3
            sig=(u[2],list(u[3]),u[4]); r=None
            for x in [c]+w.parents(c):
                s.looked.append(x); m=w.meth(x,sig)
                if m: r=(x,m); break
            if not r:
                af=w.allfaces(c); s.looked+=af
                g=[q for q in w.special(c,sig) if not q[1].bare]
                if len(g)==1: r=g[0]
                else:
                    for x in af:
                        m=w.meth(x,sig)
                        if m and not m.static and m.acc!=0: r=(x,m); break
            if not r: return 5
            if k<11: s.found=r
            if not s.mlet(r[1],r[0],c,d): return 2
            if r[1].static!=(k in(9,10)): return 3
            if k<11: return 0
            b=w.parent(d) if k==11 else c
            for x in [b]+(w.parents(b) if k==11 else []):
                m=w.meth(x,sig)
                if m and not m.static:
                    if m.bare: return 6
                    s.found=(x,m); return 0
            g=[q for q in w.special(b,sig) if not q[1].bare]
            if len(g)==1: s.found=g[0]; return 0
            return 3 if len(g)>1 else 6
        return 0

class Machine:
    def __init__(s,w,house):
        s.w=w; s.l=Loader(w); s.st={}; s.objs=[None]; s.nf=0; s.stat={}; s.h=house
    def state(s,c):
        if c in BUILTIN: return 4
        n=c.name
        if n in s.st: return s.st[n]
        if n in s.l.lk: return 6 if s.l.lk[n] else 2
        if n in s.l.load: return 5 if s.l.load[n] else 1
        return 0
    def ask(s,d,u):
        f=s.l.ask(d,u)
        if f: raise Fail(f)
        return s.l.found
    def start(s,x):
        if x in BUILTIN: return
        t=s.st.get(x.name)
        if t in(3,4): return
        if t==7: raise Fail(9)
        if s.depth>=24: raise Fail(15)
        f=s.l.linked(x)
        if f: raise Fail(f)
        s.st[x.name]=3; s.l.event(x,3); s.depth+=1
        try:
            p=s.w.parent(x)
            if p: s.start(p)
            if x.sort=='class':
                def go(y):
                    for f in s.w.faces(y):
                        go(f)
                        if any(m.kind=='method' and not m.bare and not m.static for m in f.members): s.start(f)
                go(x)
            for m in x.members:
                if m.kind=='field' and m.const is not None: s.stat[(x.name,m.name)]=m.const
            for m in x.items:
                if m.kind=='start': s.body(x,m,m.block,{}, None)
                elif m.kind=='field' and m.static and m.const is None and m.e:
                    s.d=x; v=s.ev(m.e,x,{},None); s.stat[(x.name,m.name)]=v
        except Thrown:
            s.st[x.name]=7; s.l.event(x,7); raise Fail(8)
        except Fail:
            s.st[x.name]=7; s.l.event(x,7); raise
        s.depth-=1
        s.st[x.name]=4; s.l.event(x,4)
    def step(s):
        if s.h.steps>=20000: raise Fail(14)
        s.h.steps+=1
    def enter(s):
        if s.h.steps>=20000: raise Fail(14)
        if s.depth>=24: raise Fail(15)
        s.h.steps+=1; s.depth+=1
    def body(s,d,m,block,env,this):
        for y in block.s: s.run(y,d,m,env,this)
    def call(s,k,m,args,this):
        s.enter()
        try:
            if m.bridge:
                return s.invoke(k,m.u,args,this)
            env={n:v for (_,n,_2),v in zip(m.ptok,args)}
            try: s.body(k,m,m.block,env,this)
            except Return as r: return r.v
            return 0
        finally: s.depth-=1
    def allfields(s,c):
        ch=[c]+s.w.parents(c); r=[]
        for x in reversed(ch): r+=[(x.name,m.name) for m in x.members if m.kind=='field' and not m.static]
        return r
    def make(s,k,m,args,this):
        if k in BUILTIN: return
        s.enter()
        try:
            env={n:v for (_,n,_2),v in zip(m.ptok,args)}
            b=m.block.s if m.block else []
            p=s.w.parent(k)
            if b and b[0].k=='superm':
                s.step(); x=b[0]
                a=[s.ev(e,k,env,this) for e in x.a]
                if hasattr(x,'u'):
                    K,mm=s.ask(k,x.u); s.make(K,mm,a,this)
                b=b[1:]
            elif hasattr(m,'supuse'):
                K,mm=s.ask(k,m.supuse); s.make(K,mm,[],this)
            for f in k.items:
                if f.kind=='field' and not f.static and f.e:
                    v=s.ev(f.e,k,{},this); s.objs[this].f[(k.name,f.name)]=v
            try:
                for y in b: s.run(y,k,m,env,this)
            except Return: pass
        finally: s.depth-=1
    def isa(s,o,c): 
        r=s.objs[o].c; return r is c or s.w.heir(r,c)
    def invoke(s,d,u,args,this):
        K,m=s.ask(d,u); C=s.l.C; k=u[0]
        if k in(7,8):
            if this==0: raise Fail(13)
            if k==8 and not s.w.heir(s.objs[this].c,C): raise Fail(3)
            r=s.w.selected(m,K,s.objs[this].c)
            if isinstance(r,int): raise Fail(r)
            K,m=r
            if k==8 and m.acc not in(0,3): raise Fail(2)
        elif k in(9,10): s.start(K)
        return s.call(K,m,args,this)
    def run(s,x,d,m,env,this):
        k=x.k
        if k=='block':
            sv=set(env)
            for y in x.s: s.run(y,d,m,env,this)
            for n in set(env)-sv: del env[n]
            return
        s.step()
        if k=='let': v=s.ev(x.e,d,env,this); env[x.n]=v
        elif k=='if':
            sv=set(env)
            if s.ev(x.e,d,env,this)!=0: s.run(x.b,d,m,env,this)
            elif x.c: s.run(x.c,d,m,env,this)
            for n in set(env)-sv: del env[n]
        elif k=='while':
            while 1:
                s.step()
                if s.ev(x.e,d,env,this)==0: break
                sv=set(env)
                s.run(x.b,d,m,env,this)
                for n in set(env)-sv: del env[n]
        elif k=='return': raise Return(s.ev(x.e,d,env,this) if x.e else 0)
        elif k=='throw':
            v=s.ev(x.e,d,env,this)
            if v==0: raise Fail(13)
            raise Thrown(v)
        elif k=='out':
            v=s.ev(x.e,d,env,this)
            if len(s.h.outs)<100: s.h.outs.append(v)
        elif k=='try':
            sv=dict(env)
            try: s.run(x.b,d,m,env,this)
            except Thrown as t:
                for n in set(env)-set(sv): del env[n]
                s.ask(d,x.u)
                if not s.isa(t.o,s.l.C): raise
                env[x.n]=t.o
                s.run(x.c,d,m,env,this); del env[x.n]
        elif k=='put':
            l=x.l
            if not l.f: env[l.n]=s.ev(x.e,d,env,this); return
            f=l.f[1]
            o=None
            if not f.static: o=s.ev(l.e,d,env,this) if l.k=='efield' else this
            v=s.ev(x.e,d,env,this)
            K,ff=s.ask(d,l.u)
            if l.u[0]==6: s.start(K); s.stat[(K.name,ff.name)]=v
            else:
                if o==0: raise Fail(13)
                s.objs[o].f[(K.name,ff.name)]=v
        elif k=='do': s.ev(x.e,d,env,this)
        else: raise 1
    def ev(s,e,d,env,this):
        k=e.k
        if k=='num': return e.v
        if k=='null': return 0
        if k=='this': return this
        if k=='paren': return s.ev(e.e,d,env,this)
        if k in('name','cfield','efield'):
            if not e.f: return env[e.n]
            if e.copy is not None: return e.copy
            o=s.ev(e.e,d,env,this) if k=='efield' else this
            K,f=s.ask(d,e.u)
            if e.u[0]==5: s.start(K); return s.stat.get((K.name,f.name),0)
            if o==0: raise Fail(13)
            return s.objs[o].f[(K.name,f.name)]
        if k in('call','ccall','ecall','super','csuper'):
            o=s.ev(e.e,d,env,this) if k=='ecall' else this
            a=[s.ev(y,d,env,this) for y in e.a]
            return s.invoke(d,e.u,a,o)
        if k=='new':
            s.ask(d,e.u1); C=s.l.C; s.start(C)
            fs=s.allfields(C)
            if len(s.objs)>200 or s.nf+len(fs)>2000: raise Fail(16)
            s.nf+=len(fs); s.objs.append(O(c=C,f={f:0 for f in fs},order=fs)); n=len(s.objs)-1
            a=[s.ev(y,d,env,this) for y in e.a]
            K,m=s.ask(d,e.u2); s.make(K,m,a,n); return n
        if k=='cast':
            v=s.ev(e.e,d,env,this)
            if v: 
                s.ask(d,e.u)
                if not s.isa(v,s.l.C): raise Fail(12)
            return v
        if k=='ask':
            v=s.ev(e.e,d,env,this)
            if not v: return 0
            s.ask(d,e.u); return int(s.isa(v,s.l.C))
        if k=='bin':
            a=s.ev(e.l,d,env,this); b=s.ev(e.r,d,env,this)
            return INT32({'+':a+b,'-':a-b,'*':a*b,'<':int(a<b),'==':int(a==b)}[e.o])
        raise 1

ACN={0:'own ',1:'',2:'kin ',3:'open '}
class House:
    def __init__(s):
        s.b=[[] for _ in range(5)]; s.pk=[-2]*5; s.tape=''; s.out=''; s.pl=-2; s.steps=0; s.outs=[]; s.val=0
        s.lost=[]; s.diff=[]; s.metm=None; s.look=[]; s.renew()
    def renew(s):
        s.w=World([s.b[i][s.pk[i]].cs if s.pk[i]>=0 else [] for i in range(5)]); s.mach=Machine(s.w,s); s.lost=[]
    def bld(s,l,b): return s.b[l][b] if 0<=l<5 and 0<=b<len(s.b[l]) else None
    def TAPE(s,t): s.tape=t; return len(t)
    def make(s,lib):
        if not 0<=lib<5: return -1
        if len(s.b[lib])>=8 or sum(map(len,s.b))>=16: return -3
        t=s.tape; s.tape=''
        try:
            cs=Parser(t).text()
            w=World([cs]+[s.b[i][s.pk[i]].cs if s.pk[i]>=0 and i!=lib else [] for i in range(5)])
            for c in cs: c.members=[m for m in c.items if m.kind!='start']; c.uses=[]
            Judge(cs,w).run()
        except Fault as f: s.pl=f.p; return -10-f.n
        s.pl=-2; s.b[lib].append(O(cs=cs,text=t)); return len(s.b[lib])-1
    def place(s): return s.pl
    def text(s,l,b):
        x=s.bld(l,b)
        if not x: return -1
        s.tape=x.text; return len(s.tape)
    def pick(s,l,b):
        if not 0<=l<5 or b!=-2 and not s.bld(l,b): return -1
        o=s.pk[l]; s.pk[l]=b; s.renew(); return o
    def members(s,l,b,k):
        x=s.bld(l,b)
        return -1 if not x or not 0<=k<len(x.cs) else len(x.cs[k].members)
    def classes(s,l,b):
        x=s.bld(l,b); return len(x.cs) if x else -1
    def shape(s,l,b,k,m):
        x=s.bld(l,b)
        if not x or not 0<=k<len(x.cs): return -1
        c=x.cs[k]
        if m==-2:
            o=('open ' if c.open else '')+('final ' if c.final else 'bare ' if c.bare else '')+c.sort+' '+c.name
            if c.is_: o+=' is '+c.is_
            if c.as_: o+=' as '+','.join(c.as_)
            if c.in_: o+=' in '+c.in_
            if c.with_: o+=' with '+','.join(c.with_)
            if c.only: o+=' only '+','.join(c.only)
        else:
            if not 0<=m<len(c.members): return -1
            m=c.members[m]
            o=('bridge ' if m.bridge else '')+ACN[m.acc]+('static ' if m.static else '')+('final ' if m.final else 'bare ' if m.bare else '')
            if m.kind=='maker': o+='new('+','.join(m.params)+')'
            elif m.kind=='field': o+=m.type+' '+m.name+('=%d'%m.const if m.const is not None else '')
            else: o+=m.type+' '+m.name+'('+','.join(m.params)+')'
        s.out=o; return len(o)
    def allu(s,x): return [(k,c,u) for k,c in enumerate(x.cs) for u in c.uses]
    def uses(s,l,b):
        x=s.bld(l,b); return len(s.allu(x)) if x else -1
    def use(s,l,b,u,w):
        x=s.bld(l,b)
        if not x or not 0<=u<len(s.allu(x)) or w not in(0,1): return -1
        k,c,q=s.allu(x)[u]; return q[0] if w==0 else k
    def txt(s,k,C,q):
        if k==2: return C+'.new('+','.join(q[2])+')'
        if k in(3,4,5,6): return C+'.'+q[2]+':'+q[3]
        if 7<=k<=12: return C+'.'+q[2]+'('+','.join(q[3])+')'+q[4]
    def tell(s,l,b,u):
        x=s.bld(l,b)
        if not x or not 0<=u<len(s.allu(x)): return -1
        q=s.allu(x)[u][2]; k=q[0]
        o='%d '%k
        if k==16: o+='%s.%s=%d'%q[1:]
        elif k==17: o+=q[1]+'>'+q[2]
        elif 2<=k<=12: o+=s.txt(k,q[1],q)
        else: o+=q[1]
        s.out=o; return len(o)
    def where(s,l,b,u):
        x=s.bld(l,b)
        if not x or not 0<=u<len(s.allu(x)): return -1
        k,c,q=s.allu(x)[u]
        if s.pk[l]!=b or s.w.get(c.name) is not c: return -2
        return c,q
    def meet(s,l,b,u):
        r=s.where(l,b,u)
        if isinstance(r,int): return r
        L=Loader(s.w); f=L.ask(*r); s.metm=L.found; s.look=[L.num(c) for c in L.looked]; return f
    def met(s):
        s.out=''
        if s.metm:
            K,m=s.metm
            if m.kind=='maker': s.out=K.name+'.new('+','.join(m.params)+')'
            elif m.kind=='field': s.out=K.name+'.'+m.name+':'+m.type
            else: s.out=K.name+'.'+m.name+'('+','.join(m.params)+')'+m.type
        return len(s.out)
    def looked(s,i): return s.look[i] if 0<=i<len(s.look) else -1
    def brk(s,pk,w,stop=False):
        r=[]
        for l in range(5):
            if pk[l]<0: continue
            x=s.b[l][pk[l]]
            for i,(k,c,q) in enumerate(s.allu(x)):
                if w.get(c.name) is not c or q[0]==16: continue
                f=Loader(w).ask(c,q)
                if f:
                    r.append((l,i,f))
                    if stop: return r
        return r
    def broken(s): s.lost=s.brk(s.pk,s.w); return len(s.lost)
    def brokenAt(s,i,w): return s.lost[i][w] if 0<=i<len(s.lost) and 0<=w<3 else -1
    def stale(s):
        n=0
        for l in range(5):
            if s.pk[l]<0: continue
            for k,c,q in s.allu(s.b[l][s.pk[l]]):
                if s.w.get(c.name) is c and q[0]==16 and Loader(s.w).ask(c,q): n+=1
        return n
    def choose(s):
        import itertools
        rs=[list(range(len(x)-1,-1,-1)) or [-2] for x in s.b]; n=0
        for pk in itertools.product(*rs):
            n+=1
            w=World([s.b[i][pk[i]].cs if pk[i]>=0 else [] for i in range(5)])
            if not s.brk(pk,w,True): s.pk=list(pk); s.renew(); return n
        return -2
    def diffs(s,x,y):
        r=[]
        bn={c.name:(i,c) for i,c in enumerate(y.cs)}; an={c.name for c in x.cs}
        for i,c in enumerate(x.cs):
            if c.name not in bn: r.append((1,i,-2,-2,-2)); continue
            j,d=bn[c.name]
            def n(k,p=-2,q=-2): r.append((k,i,j,p,q))
            if c.sort!=d.sort: n(2); continue
            if c.open!=d.open: n(4 if d.open else 3)
            if c.final!=d.final: n(5 if d.final else 6)
            if c.bare!=d.bare: n(7 if d.bare else 8)
            if (c.is_ or 'z.Any')!=(d.is_ or 'z.Any'): n(9)
            for f in c.as_:
                if f not in d.as_: n(10)
            for f in d.as_:
                if f not in c.as_: n(11)
            if c.in_!=d.in_: n(12)
            if d.only and (not c.only or any(o not in d.only for o in c.only)): n(13)
            elif c.only!=d.only: n(14)
            A=list(enumerate(c.members)); B=list(enumerate(d.members))
            for p,m in A:
                if m.kind!='field': continue
                o=[(q,v) for q,v in B if v.kind=='field' and v.name==m.name]
                if not o: n(20,p); continue
                q,v=o[0]
                if m.type!=v.type: n(21,p,q)
                if m.static!=v.static: n(22,p,q)
                if m.type!=v.type or m.static!=v.static: continue
                if m.final!=v.final: n(23 if v.final else 24,p,q)
                if m.acc!=v.acc: n(25 if v.acc<m.acc else 26,p,q)
                if m.const!=v.const: n(27,p,q)
            for q,v in B:
                if v.kind=='field' and not any(m.kind=='field' and m.name==v.name for p,m in A): n(28,-2,q)
            key=lambda m:(m.name,m.params)
            for p,m in A:
                if m.kind!='method' or m.bridge: continue
                o=[(q,v) for q,v in B if v.kind=='method' and not v.bridge and key(v)==key(m)]
                if not o: n(30,p); continue
                q,v=o[0]
                if m.type!=v.type: n(31,p,q)
                if m.static!=v.static: n(32,p,q)
                if m.type!=v.type or m.static!=v.static: continue
                if m.final!=v.final: n(33 if v.final else 34,p,q)
                if m.bare!=v.bare: n(35 if v.bare else 36,p,q)
                if m.acc!=v.acc: n(37 if v.acc<m.acc else 38,p,q)
                if m.block and v.block and m.toks!=v.toks: n(39,p,q)
            for q,v in B:
                if v.kind=='method' and not v.bridge and not any(m.kind=='method' and not m.bridge and key(m)==key(v) for p,m in A): n(41 if v.bare else 40,-2,q)
            tk=lambda m:('{','}') if m.default else m.toks
            for p,m in A:
                if m.kind!='maker': continue
                o=[(q,v) for q,v in B if v.kind=='maker' and v.params==m.params]
                if not o: n(50,p); continue
                q,v=o[0]
                if m.acc!=v.acc: n(51 if v.acc<m.acc else 52,p,q)
                if tk(m)!=tk(v): n(53,p,q)
            for q,v in B:
                if v.kind=='maker' and not any(m.kind=='maker' and m.params==v.params for p,m in A): n(54,-2,q)
            st=lambda c:sum((m.toks for m in c.items if m.kind=='start' or m.kind=='field' and m.const is None),())
            if st(c)!=st(d): n(60)
        for j,d in enumerate(y.cs):
            if d.name not in an: r.append((70,-2,j,-2,-2))
        return r
    def differ(s,l,a,b):
        x=s.bld(l,a);y=s.bld(l,b)
        if not x or not y: return -1
        s.diff=s.diffs(x,y); return len(s.diff)
    def change(s,i,w): return s.diff[i][w] if 0<=i<len(s.diff) and 0<=w<5 else -1
    def word(s,l,a,b):
        x=s.bld(l,a);y=s.bld(l,b)
        if not x or not y: return -1
        ks=[d[0] for d in s.diffs(x,y)]
        if any(k in(1,2,3,5,7,9,10,13,20,21,22,23,25,30,31,32,33,35,37,41,50,51) for k in ks): return 3
        if any(k not in(39,53,60) for k in ks): return 2
        return 1 if ks else 0
    def weave(s,l,a,b):
        import copy
        x=s.bld(l,a);y=s.bld(l,b)
        if not x or not y: return -1
        pk=list(s.pk); pk[l]=b
        w=World([s.b[i][pk[i]].cs if pk[i]>=0 else [] for i in range(5)])
        cs=[];healed=0;over=False
        for d in y.cs:
            n=copy.copy(d); n.members=list(d.members); n.uses=list(d.uses); cs.append(n)
            c=[q for q in x.cs if q.name==d.name and q.sort==d.sort]
            if not c: continue
            for m in c[0].members:
                if m.kind!='method' or m.bridge or m.acc==0: continue
                if any(v.kind=='method' and (v.name,v.params,v.type)==(m.name,m.params,m.type) for v in n.members): continue
                t=[v for v in n.members if v.kind=='method' and not v.bridge and not v.bare and v.acc!=0 and v.name==m.name and v.params==m.params and v.static==m.static]
                if not t or t[0].type in('int','void') or not w.fits(t[0].type,m.type): continue
                t=t[0]; healed+=1
                br=mk('method',n,acc=t.acc,bridge=True,static=t.static,name=t.name,params=list(t.params),type=m.type,target=t)
                n.members.append(br)
                if sum(v.bridge for v in n.members)>12: over=True
                J=Judge([],w); J.d=n; bridge_uses(J,br)
        if not healed: return -2
        if over or len(s.b[l])>=8 or sum(map(len,s.b))>=16: return -3
        s.b[l].append(O(cs=cs,text=y.text)); return len(s.b[l])-1
    def fresh(s):
        n=sum(1 for c in s.w.list[2:] if s.mach.state(c) not in(0,5)); s.mach=Machine(s.w,s); return n
    def touch(s,l,b,u):
        r=s.where(l,b,u)
        if isinstance(r,int): return r
        return s.mach.l.ask(*r)
    def run(s):
        t=s.tape; s.tape=''
        m=re.fullmatch(r'([a-z]\.[A-Z][a-zA-Z0-9]*)\.([a-z][a-zA-Z0-9]*)',t)
        if not m: return -2
        c=s.w.get(m.group(1))
        if not c: return -2
        f=[x for x in c.members if x.kind=='method' and x.name==m.group(2) and x.static and x.block and not x.params]
        if not f: return -2
        M=s.mach; s.steps=0; s.outs=[]; s.val=0; M.depth=0
        try:
            M.start(c); s.val=M.call(c,f[0],[],None); return 1
        except Thrown as t: s.val=t.o; return 2
        except Fail as f: return -10-f.n
    def value(s): return s.val
    def told(s,w):
        return {0:s.steps,1:len(s.outs),2:len(s.mach.objs)-1,3:s.mach.nf,4:len(s.mach.l.ev),5:len(s.w.list),6:len(s.tape),7:sum(map(len,s.b))}.get(w,-1)
    def number(s,i): return s.outs[i] if 0<=i<len(s.outs) else 0
    def event(s,i): return s.mach.l.ev[i] if 0<=i<len(s.mach.l.ev) else -1
    def name(s,k):
        if not 0<=k<len(s.w.list): return -1
        s.out=s.w.list[k].name; return len(s.out)
    def state(s,k): return s.mach.state(s.w.list[k]) if 0<=k<len(s.w.list) else -1
    def classOf(s,o): return s.w.list.index(s.mach.objs[o].c) if 1<=o<len(s.mach.objs) else -1
    def fieldOf(s,o,k):
        if not 1<=o<len(s.mach.objs): return 0
        x=s.mach.objs[o]
        return x.f[x.order[k]] if 0<=k<len(x.order) else 0
    def builds(s,l): return len(s.b[l]) if 0<=l<5 else -1
    def picked(s,l): return s.pk[l] if 0<=l<5 else -1
